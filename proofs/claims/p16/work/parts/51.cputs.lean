/-! the class's cells: what they read, what a write leaves -/
theorem cSame_0 {cI cZ cP cF : Nat} {v v' : Nat → Nat → Nat → Int32} {q : Nat → Nat → Nat} {T : Nat × Nat} {i : Nat} : cCell cI cZ cP cF q (v', T) i 0 = cCell cI cZ cP cF q (v, T) i 0 := by
  show cc0 cI cZ cP cF q (v', T) i = cc0 cI cZ cP cF q (v, T) i
  unfold cc0
  rfl
theorem cSame_1 {cI cZ cP cF : Nat} {v v' : Nat → Nat → Nat → Int32} {q : Nat → Nat → Nat} {T : Nat × Nat} {i : Nat} (h : ∀ f : Nat, f < 10 → v' (10 * 1 + f) i = v (10 * 1 + f) i) : cCell cI cZ cP cF q (v', T) i 1 = cCell cI cZ cP cF q (v, T) i 1 := by
  show cc1 cI cZ cP cF q (v', T) i = cc1 cI cZ cP cF q (v, T) i
  unfold cc1
  rw [show cv (v', T) 11 i = cv (v, T) 11 i from h 1 (by decide)]
theorem cSame_2 {cI cZ cP cF : Nat} {v v' : Nat → Nat → Nat → Int32} {q : Nat → Nat → Nat} {T : Nat × Nat} {i : Nat} (h : ∀ f : Nat, f < 10 → v' (10 * 2 + f) i = v (10 * 2 + f) i) : cCell cI cZ cP cF q (v', T) i 2 = cCell cI cZ cP cF q (v, T) i 2 := by
  show cc2 cI cZ cP cF q (v', T) i = cc2 cI cZ cP cF q (v, T) i
  unfold cc2
  rw [show cv (v', T) 20 i = cv (v, T) 20 i from h 0 (by decide)]
theorem cSame_3 {cI cZ cP cF : Nat} {v v' : Nat → Nat → Nat → Int32} {q : Nat → Nat → Nat} {T : Nat × Nat} {i : Nat} : cCell cI cZ cP cF q (v', T) i 3 = cCell cI cZ cP cF q (v, T) i 3 := by
  show cc3 cI cZ cP cF q (v', T) i = cc3 cI cZ cP cF q (v, T) i
  unfold cc3
  rfl
theorem cSame_4 {cI cZ cP cF : Nat} {v v' : Nat → Nat → Nat → Int32} {q : Nat → Nat → Nat} {T : Nat × Nat} {i : Nat} (h : ∀ f : Nat, f < 10 → v' (10 * 4 + f) i = v (10 * 4 + f) i) : cCell cI cZ cP cF q (v', T) i 4 = cCell cI cZ cP cF q (v, T) i 4 := by
  show cc4 cI cZ cP cF q (v', T) i = cc4 cI cZ cP cF q (v, T) i
  unfold cc4
  rw [show cv (v', T) 40 i = cv (v, T) 40 i from h 0 (by decide)]
theorem cSame_5 {cI cZ cP cF : Nat} {v v' : Nat → Nat → Nat → Int32} {q : Nat → Nat → Nat} {T : Nat × Nat} {i : Nat} (h : ∀ f : Nat, f < 10 → v' (10 * 5 + f) i = v (10 * 5 + f) i) : cCell cI cZ cP cF q (v', T) i 5 = cCell cI cZ cP cF q (v, T) i 5 := by
  show cc5 cI cZ cP cF q (v', T) i = cc5 cI cZ cP cF q (v, T) i
  unfold cc5
  rw [show cv (v', T) 50 i = cv (v, T) 50 i from h 0 (by decide)]
theorem cSame_6 {cI cZ cP cF : Nat} {v v' : Nat → Nat → Nat → Int32} {q : Nat → Nat → Nat} {T : Nat × Nat} {i : Nat} (h : ∀ f : Nat, f < 10 → v' (10 * 6 + f) i = v (10 * 6 + f) i) : cCell cI cZ cP cF q (v', T) i 6 = cCell cI cZ cP cF q (v, T) i 6 := by
  show cc6 cI cZ cP cF q (v', T) i = cc6 cI cZ cP cF q (v, T) i
  unfold cc6
  rw [show cv (v', T) 60 i = cv (v, T) 60 i from h 0 (by decide)]
theorem cSame_7 {cI cZ cP cF : Nat} {v v' : Nat → Nat → Nat → Int32} {q : Nat → Nat → Nat} {T : Nat × Nat} {i : Nat} (h : ∀ f : Nat, f < 10 → v' (10 * 7 + f) i = v (10 * 7 + f) i) : cCell cI cZ cP cF q (v', T) i 7 = cCell cI cZ cP cF q (v, T) i 7 := by
  show cc7 cI cZ cP cF q (v', T) i = cc7 cI cZ cP cF q (v, T) i
  unfold cc7
  rw [show cv (v', T) 72 i = cv (v, T) 72 i from h 2 (by decide)]
theorem cSame_8 {cI cZ cP cF : Nat} {v v' : Nat → Nat → Nat → Int32} {q : Nat → Nat → Nat} {T : Nat × Nat} {i : Nat} (h : ∀ f : Nat, f < 10 → v' (10 * 8 + f) i = v (10 * 8 + f) i) : cCell cI cZ cP cF q (v', T) i 8 = cCell cI cZ cP cF q (v, T) i 8 := by
  show cc8 cI cZ cP cF q (v', T) i = cc8 cI cZ cP cF q (v, T) i
  unfold cc8
  rw [show cv (v', T) 80 i = cv (v, T) 80 i from h 0 (by decide)]
theorem cSame_9 {cI cZ cP cF : Nat} {v v' : Nat → Nat → Nat → Int32} {q : Nat → Nat → Nat} {T : Nat × Nat} {i : Nat} (h : ∀ f : Nat, f < 10 → v' (10 * 9 + f) i = v (10 * 9 + f) i) : cCell cI cZ cP cF q (v', T) i 9 = cCell cI cZ cP cF q (v, T) i 9 := by
  show cc9 cI cZ cP cF q (v', T) i = cc9 cI cZ cP cF q (v, T) i
  unfold cc9
  rw [show cv (v', T) 90 i = cv (v, T) 90 i from h 0 (by decide)]
theorem cSame_10 {cI cZ cP cF : Nat} {v v' : Nat → Nat → Nat → Int32} {q : Nat → Nat → Nat} {T : Nat × Nat} {i : Nat} (h : ∀ f : Nat, f < 10 → v' (10 * 10 + f) i = v (10 * 10 + f) i) : cCell cI cZ cP cF q (v', T) i 10 = cCell cI cZ cP cF q (v, T) i 10 := by
  show cc10 cI cZ cP cF q (v', T) i = cc10 cI cZ cP cF q (v, T) i
  unfold cc10
  rw [show cv (v', T) 103 i = cv (v, T) 103 i from h 3 (by decide)]
theorem cSame_11 {cI cZ cP cF : Nat} {v v' : Nat → Nat → Nat → Int32} {q : Nat → Nat → Nat} {T : Nat × Nat} {i : Nat} (h : ∀ f : Nat, f < 10 → v' (10 * 11 + f) i = v (10 * 11 + f) i) : cCell cI cZ cP cF q (v', T) i 11 = cCell cI cZ cP cF q (v, T) i 11 := by
  show cc11 cI cZ cP cF q (v', T) i = cc11 cI cZ cP cF q (v, T) i
  unfold cc11
  rw [show cv (v', T) 110 i = cv (v, T) 110 i from h 0 (by decide)]
theorem cSame_12 {cI cZ cP cF : Nat} {v v' : Nat → Nat → Nat → Int32} {q : Nat → Nat → Nat} {T : Nat × Nat} {i : Nat} (h : ∀ f : Nat, f < 10 → v' (10 * 12 + f) i = v (10 * 12 + f) i) : cCell cI cZ cP cF q (v', T) i 12 = cCell cI cZ cP cF q (v, T) i 12 := by
  show cc12 cI cZ cP cF q (v', T) i = cc12 cI cZ cP cF q (v, T) i
  unfold cc12
  rw [show cv (v', T) 126 i = cv (v, T) 126 i from h 6 (by decide), show cv (v', T) 127 i = cv (v, T) 127 i from h 7 (by decide), show cv (v', T) 128 i = cv (v, T) 128 i from h 8 (by decide), show cv (v', T) 129 i = cv (v, T) 129 i from h 9 (by decide)]
theorem cSame_13 {cI cZ cP cF : Nat} {v v' : Nat → Nat → Nat → Int32} {q : Nat → Nat → Nat} {T : Nat × Nat} {i : Nat} : cCell cI cZ cP cF q (v', T) i 13 = cCell cI cZ cP cF q (v, T) i 13 := by
  show cc13 cI cZ cP cF q (v', T) i = cc13 cI cZ cP cF q (v, T) i
  unfold cc13
  rfl
theorem cSame_14 {cI cZ cP cF : Nat} {v v' : Nat → Nat → Nat → Int32} {q : Nat → Nat → Nat} {T : Nat × Nat} {i : Nat} (h : ∀ f : Nat, f < 10 → v' (10 * 14 + f) i = v (10 * 14 + f) i) : cCell cI cZ cP cF q (v', T) i 14 = cCell cI cZ cP cF q (v, T) i 14 := by
  show cc14 cI cZ cP cF q (v', T) i = cc14 cI cZ cP cF q (v, T) i
  unfold cc14
  rw [show cv (v', T) 140 i = cv (v, T) 140 i from h 0 (by decide)]
theorem cSame_15 {cI cZ cP cF : Nat} {v v' : Nat → Nat → Nat → Int32} {q : Nat → Nat → Nat} {T : Nat × Nat} {i : Nat} : cCell cI cZ cP cF q (v', T) i 15 = cCell cI cZ cP cF q (v, T) i 15 := by
  show cc15 cI cZ cP cF q (v', T) i = cc15 cI cZ cP cF q (v, T) i
  unfold cc15
  rfl
theorem cSame_16 {cI cZ cP cF : Nat} {v v' : Nat → Nat → Nat → Int32} {q : Nat → Nat → Nat} {T : Nat × Nat} {i : Nat} (h : ∀ f : Nat, f < 10 → v' (10 * 16 + f) i = v (10 * 16 + f) i) : cCell cI cZ cP cF q (v', T) i 16 = cCell cI cZ cP cF q (v, T) i 16 := by
  show cc16 cI cZ cP cF q (v', T) i = cc16 cI cZ cP cF q (v, T) i
  unfold cc16
  rw [show cv (v', T) 160 i = cv (v, T) 160 i from h 0 (by decide)]
theorem cSame_17 {cI cZ cP cF : Nat} {v v' : Nat → Nat → Nat → Int32} {q : Nat → Nat → Nat} {T : Nat × Nat} {i : Nat} (h : ∀ f : Nat, f < 10 → v' (10 * 17 + f) i = v (10 * 17 + f) i) : cCell cI cZ cP cF q (v', T) i 17 = cCell cI cZ cP cF q (v, T) i 17 := by
  show cc17 cI cZ cP cF q (v', T) i = cc17 cI cZ cP cF q (v, T) i
  unfold cc17
  rw [show cv (v', T) 170 i = cv (v, T) 170 i from h 0 (by decide)]
theorem cSame_18 {cI cZ cP cF : Nat} {v v' : Nat → Nat → Nat → Int32} {q : Nat → Nat → Nat} {T : Nat × Nat} {i : Nat} (h : ∀ f : Nat, f < 10 → v' (10 * 18 + f) i = v (10 * 18 + f) i) : cCell cI cZ cP cF q (v', T) i 18 = cCell cI cZ cP cF q (v, T) i 18 := by
  show cc18 cI cZ cP cF q (v', T) i = cc18 cI cZ cP cF q (v, T) i
  unfold cc18
  rw [show cv (v', T) 180 i = cv (v, T) 180 i from h 0 (by decide)]
theorem cSame_19 {cI cZ cP cF : Nat} {v v' : Nat → Nat → Nat → Int32} {q : Nat → Nat → Nat} {T : Nat × Nat} {i : Nat} (h : ∀ f : Nat, f < 10 → v' (10 * 19 + f) i = v (10 * 19 + f) i) : cCell cI cZ cP cF q (v', T) i 19 = cCell cI cZ cP cF q (v, T) i 19 := by
  show cc19 cI cZ cP cF q (v', T) i = cc19 cI cZ cP cF q (v, T) i
  unfold cc19
  rw [show cv (v', T) 190 i = cv (v, T) 190 i from h 0 (by decide)]
theorem cSame_20 {cI cZ cP cF : Nat} {v v' : Nat → Nat → Nat → Int32} {q : Nat → Nat → Nat} {T : Nat × Nat} {i : Nat} (h : ∀ f : Nat, f < 10 → v' (10 * 20 + f) i = v (10 * 20 + f) i) : cCell cI cZ cP cF q (v', T) i 20 = cCell cI cZ cP cF q (v, T) i 20 := by
  show cc20 cI cZ cP cF q (v', T) i = cc20 cI cZ cP cF q (v, T) i
  unfold cc20
  rw [show cv (v', T) 200 i = cv (v, T) 200 i from h 0 (by decide), show cv (v', T) 201 i = cv (v, T) 201 i from h 1 (by decide), show cv (v', T) 202 i = cv (v, T) 202 i from h 2 (by decide), show cv (v', T) 203 i = cv (v, T) 203 i from h 3 (by decide), show cv (v', T) 204 i = cv (v, T) 204 i from h 4 (by decide), show cv (v', T) 205 i = cv (v, T) 205 i from h 5 (by decide)]
theorem cSame_21 {cI cZ cP cF : Nat} {v v' : Nat → Nat → Nat → Int32} {q : Nat → Nat → Nat} {T : Nat × Nat} {i : Nat} (h : ∀ f : Nat, f < 10 → v' (10 * 21 + f) i = v (10 * 21 + f) i) : cCell cI cZ cP cF q (v', T) i 21 = cCell cI cZ cP cF q (v, T) i 21 := by
  show cc21 cI cZ cP cF q (v', T) i = cc21 cI cZ cP cF q (v, T) i
  unfold cc21
  rw [show cv (v', T) 210 i = cv (v, T) 210 i from h 0 (by decide)]
theorem cSame_22 {cI cZ cP cF : Nat} {v v' : Nat → Nat → Nat → Int32} {q : Nat → Nat → Nat} {T : Nat × Nat} {i : Nat} (h : ∀ f : Nat, f < 10 → v' (10 * 22 + f) i = v (10 * 22 + f) i) : cCell cI cZ cP cF q (v', T) i 22 = cCell cI cZ cP cF q (v, T) i 22 := by
  show cc22 cI cZ cP cF q (v', T) i = cc22 cI cZ cP cF q (v, T) i
  unfold cc22 cn
  rw [show cv (v', T) 220 i = cv (v, T) 220 i from h 0 (by decide), show cv (v', T) 221 i = cv (v, T) 221 i from h 1 (by decide), show cv (v', T) 222 i = cv (v, T) 222 i from h 2 (by decide), show cv (v', T) 223 i = cv (v, T) 223 i from h 3 (by decide)]
theorem cSame_23 {cI cZ cP cF : Nat} {v v' : Nat → Nat → Nat → Int32} {q : Nat → Nat → Nat} {T : Nat × Nat} {i : Nat} (h : ∀ f : Nat, f < 10 → v' (10 * 23 + f) i = v (10 * 23 + f) i) : cCell cI cZ cP cF q (v', T) i 23 = cCell cI cZ cP cF q (v, T) i 23 := by
  show cc23 cI cZ cP cF q (v', T) i = cc23 cI cZ cP cF q (v, T) i
  unfold cc23
  rw [show cv (v', T) 230 i = cv (v, T) 230 i from h 0 (by decide)]
theorem cSame_24 {cI cZ cP cF : Nat} {v v' : Nat → Nat → Nat → Int32} {q : Nat → Nat → Nat} {T : Nat × Nat} {i : Nat} (h : ∀ f : Nat, f < 10 → v' (10 * 24 + f) i = v (10 * 24 + f) i) : cCell cI cZ cP cF q (v', T) i 24 = cCell cI cZ cP cF q (v, T) i 24 := by
  show cc24 cI cZ cP cF q (v', T) i = cc24 cI cZ cP cF q (v, T) i
  unfold cc24 cn
  rw [show cv (v', T) 240 i = cv (v, T) 240 i from h 0 (by decide), show cv (v', T) 241 i = cv (v, T) 241 i from h 1 (by decide), show cv (v', T) 242 i = cv (v, T) 242 i from h 2 (by decide), show cv (v', T) 247 i = cv (v, T) 247 i from h 7 (by decide), show cv (v', T) 248 i = cv (v, T) 248 i from h 8 (by decide), show cv (v', T) 249 i = cv (v, T) 249 i from h 9 (by decide)]
theorem cSame_25 {cI cZ cP cF : Nat} {v v' : Nat → Nat → Nat → Int32} {q : Nat → Nat → Nat} {T : Nat × Nat} {i : Nat} (h : ∀ f : Nat, f < 10 → v' (10 * 25 + f) i = v (10 * 25 + f) i) : cCell cI cZ cP cF q (v', T) i 25 = cCell cI cZ cP cF q (v, T) i 25 := by
  show cc25 cI cZ cP cF q (v', T) i = cc25 cI cZ cP cF q (v, T) i
  unfold cc25
  rw [show cv (v', T) 250 i = cv (v, T) 250 i from h 0 (by decide)]
theorem cSame_26 {cI cZ cP cF : Nat} {v v' : Nat → Nat → Nat → Int32} {q : Nat → Nat → Nat} {T : Nat × Nat} {i : Nat} (h : ∀ f : Nat, f < 10 → v' (10 * 26 + f) i = v (10 * 26 + f) i) : cCell cI cZ cP cF q (v', T) i 26 = cCell cI cZ cP cF q (v, T) i 26 := by
  show cc26 cI cZ cP cF q (v', T) i = cc26 cI cZ cP cF q (v, T) i
  unfold cc26
  rw [show cv (v', T) 260 i = cv (v, T) 260 i from h 0 (by decide)]
theorem cSame_27 {cI cZ cP cF : Nat} {v v' : Nat → Nat → Nat → Int32} {q : Nat → Nat → Nat} {T : Nat × Nat} {i : Nat} (h : ∀ f : Nat, f < 10 → v' (10 * 27 + f) i = v (10 * 27 + f) i) : cCell cI cZ cP cF q (v', T) i 27 = cCell cI cZ cP cF q (v, T) i 27 := by
  show cc27 cI cZ cP cF q (v', T) i = cc27 cI cZ cP cF q (v, T) i
  unfold cc27
  rw [show cv (v', T) 270 i = cv (v, T) 270 i from h 0 (by decide)]
theorem cSame_28 {cI cZ cP cF : Nat} {v v' : Nat → Nat → Nat → Int32} {q : Nat → Nat → Nat} {T : Nat × Nat} {i : Nat} (h : ∀ f : Nat, f < 10 → v' (10 * 28 + f) i = v (10 * 28 + f) i) : cCell cI cZ cP cF q (v', T) i 28 = cCell cI cZ cP cF q (v, T) i 28 := by
  show cc28 cI cZ cP cF q (v', T) i = cc28 cI cZ cP cF q (v, T) i
  unfold cc28 cn
  rw [show cv (v', T) 280 i = cv (v, T) 280 i from h 0 (by decide), show cv (v', T) 281 i = cv (v, T) 281 i from h 1 (by decide), show cv (v', T) 282 i = cv (v, T) 282 i from h 2 (by decide), show cv (v', T) 283 i = cv (v, T) 283 i from h 3 (by decide), show cv (v', T) 284 i = cv (v, T) 284 i from h 4 (by decide), show cv (v', T) 285 i = cv (v, T) 285 i from h 5 (by decide)]
theorem cSame_29 {cI cZ cP cF : Nat} {v v' : Nat → Nat → Nat → Int32} {q : Nat → Nat → Nat} {T : Nat × Nat} {i : Nat} (h : ∀ f : Nat, f < 10 → v' (10 * 29 + f) i = v (10 * 29 + f) i) : cCell cI cZ cP cF q (v', T) i 29 = cCell cI cZ cP cF q (v, T) i 29 := by
  show cc29 cI cZ cP cF q (v', T) i = cc29 cI cZ cP cF q (v, T) i
  unfold cc29
  rw [show cv (v', T) 290 i = cv (v, T) 290 i from h 0 (by decide)]
theorem cSame_30 {cI cZ cP cF : Nat} {v v' : Nat → Nat → Nat → Int32} {q : Nat → Nat → Nat} {T : Nat × Nat} {i : Nat} (h : ∀ f : Nat, f < 10 → v' (10 * 30 + f) i = v (10 * 30 + f) i) : cCell cI cZ cP cF q (v', T) i 30 = cCell cI cZ cP cF q (v, T) i 30 := by
  show cc30 cI cZ cP cF q (v', T) i = cc30 cI cZ cP cF q (v, T) i
  unfold cc30
  rw [show cv (v', T) 300 i = cv (v, T) 300 i from h 0 (by decide)]
theorem cSame_31 {cI cZ cP cF : Nat} {v v' : Nat → Nat → Nat → Int32} {q : Nat → Nat → Nat} {T : Nat × Nat} {i : Nat} (h : ∀ f : Nat, f < 10 → v' (10 * 31 + f) i = v (10 * 31 + f) i) : cCell cI cZ cP cF q (v', T) i 31 = cCell cI cZ cP cF q (v, T) i 31 := by
  show cc31 cI cZ cP cF q (v', T) i = cc31 cI cZ cP cF q (v, T) i
  unfold cc31
  rw [show cv (v', T) 310 i = cv (v, T) 310 i from h 0 (by decide)]
theorem cSame_32 {cI cZ cP cF : Nat} {v v' : Nat → Nat → Nat → Int32} {q : Nat → Nat → Nat} {T : Nat × Nat} {i : Nat} (h : ∀ f : Nat, f < 10 → v' (10 * 32 + f) i = v (10 * 32 + f) i) : cCell cI cZ cP cF q (v', T) i 32 = cCell cI cZ cP cF q (v, T) i 32 := by
  show cc32 cI cZ cP cF q (v', T) i = cc32 cI cZ cP cF q (v, T) i
  unfold cc32
  rw [show cv (v', T) 320 i = cv (v, T) 320 i from h 0 (by decide), show cv (v', T) 321 i = cv (v, T) 321 i from h 1 (by decide)]
theorem cSame_33 {cI cZ cP cF : Nat} {v v' : Nat → Nat → Nat → Int32} {q : Nat → Nat → Nat} {T : Nat × Nat} {i : Nat} (h : ∀ f : Nat, f < 10 → v' (10 * 33 + f) i = v (10 * 33 + f) i) : cCell cI cZ cP cF q (v', T) i 33 = cCell cI cZ cP cF q (v, T) i 33 := by
  show cc33 cI cZ cP cF q (v', T) i = cc33 cI cZ cP cF q (v, T) i
  unfold cc33
  rw [show cv (v', T) 330 i = cv (v, T) 330 i from h 0 (by decide), show cv (v', T) 339 i = cv (v, T) 339 i from h 9 (by decide)]
theorem cSame_34 {cI cZ cP cF : Nat} {v v' : Nat → Nat → Nat → Int32} {q : Nat → Nat → Nat} {T : Nat × Nat} {i : Nat} (h : ∀ f : Nat, f < 10 → v' (10 * 34 + f) i = v (10 * 34 + f) i) : cCell cI cZ cP cF q (v', T) i 34 = cCell cI cZ cP cF q (v, T) i 34 := by
  show cc34 cI cZ cP cF q (v', T) i = cc34 cI cZ cP cF q (v, T) i
  unfold cc34
  rw [show cv (v', T) 340 i = cv (v, T) 340 i from h 0 (by decide), show cv (v', T) 349 i = cv (v, T) 349 i from h 9 (by decide)]
theorem cCell_same {cI cZ cP cF : Nat} {v v' : Nat → Nat → Nat → Int32} {q : Nat → Nat → Nat} {T : Nat × Nat} {i : Nat} {k : Nat} (hk : k < 35) (h : ∀ f : Nat, f < 10 → v' (10 * k + f) i = v (10 * k + f) i) : cCell cI cZ cP cF q (v', T) i k = cCell cI cZ cP cF q (v, T) i k := by
  rcases (show k = 0 ∨ k = 1 ∨ k = 2 ∨ k = 3 ∨ k = 4 ∨ k = 5 ∨ k = 6 ∨ k = 7 ∨ k = 8 ∨ k = 9 ∨ k = 10 ∨ k = 11 ∨ k = 12 ∨ k = 13 ∨ k = 14 ∨ k = 15 ∨ k = 16 ∨ k = 17 ∨ k = 18 ∨ k = 19 ∨ k = 20 ∨ k = 21 ∨ k = 22 ∨ k = 23 ∨ k = 24 ∨ k = 25 ∨ k = 26 ∨ k = 27 ∨ k = 28 ∨ k = 29 ∨ k = 30 ∨ k = 31 ∨ k = 32 ∨ k = 33 ∨ k = 34 by omega) with rfl | rfl | rfl | rfl | rfl | rfl | rfl | rfl | rfl | rfl | rfl | rfl | rfl | rfl | rfl | rfl | rfl | rfl | rfl | rfl | rfl | rfl | rfl | rfl | rfl | rfl | rfl | rfl | rfl | rfl | rfl | rfl | rfl | rfl | rfl
  · exact cSame_0
  · exact cSame_1 h
  · exact cSame_2 h
  · exact cSame_3
  · exact cSame_4 h
  · exact cSame_5 h
  · exact cSame_6 h
  · exact cSame_7 h
  · exact cSame_8 h
  · exact cSame_9 h
  · exact cSame_10 h
  · exact cSame_11 h
  · exact cSame_12 h
  · exact cSame_13
  · exact cSame_14 h
  · exact cSame_15
  · exact cSame_16 h
  · exact cSame_17 h
  · exact cSame_18 h
  · exact cSame_19 h
  · exact cSame_20 h
  · exact cSame_21 h
  · exact cSame_22 h
  · exact cSame_23 h
  · exact cSame_24 h
  · exact cSame_25 h
  · exact cSame_26 h
  · exact cSame_27 h
  · exact cSame_28 h
  · exact cSame_29 h
  · exact cSame_30 h
  · exact cSame_31 h
  · exact cSame_32 h
  · exact cSame_33 h
  · exact cSame_34 h
theorem cW_put {A : Nat → Prop} {cI cZ cP cF : Nat} {q : Nat → Nat → Nat} {S : CST} {k i p κ : Nat} {g : Nat → Int32} {e : va_E} (hk : k / 10 = κ) (hD : va_D A (cW cI cZ cP cF q S)) (hp : (cW cI cZ cP cF q S)[p]? = some (q κ i, e)) (hin : cin S κ i) : (cW cI cZ cP cF q S).set p (q κ i, cCell cI cZ cP cF q (cs S k i g) i κ) = cW cI cZ cP cF q (cs S k i g) :=
  cW_set (v := S.1) (T := S.2) hD hp hin (fun k' i' hc hne => cCell_same (by unfold cin at hc; omega) (fun f hf => if_neg (fun w => hne (by omega))))
theorem cput_11 (cI cZ cP cF : Nat) (q : Nat → Nat → Nat) (S : CST) (i : Nat) (x : Int32) : cCell cI cZ cP cF q (cs S 11 i (fun _ => x)) i 1 = .inr (0, [.ref (q 2 0), .int x]) := by
  show cc1 cI cZ cP cF q (cs S 11 i (fun _ => x)) i = _
  unfold cc1
  rw [cs_s]
theorem cput_20 (cI cZ cP cF : Nat) (q : Nat → Nat → Nat) (S : CST) (i : Nat) (g : Nat → Int32) : cCell cI cZ cP cF q (cs S 20 i g) i 2 = .inl (cP, 8, .inr (.inr (.inr (.inr (fun j => cno q 24 (g j)))))) := by
  show cc2 cI cZ cP cF q (cs S 20 i g) i = _
  unfold cc2
  rw [cs_s]
theorem cput_40 (cI cZ cP cF : Nat) (q : Nat → Nat → Nat) (S : CST) (i : Nat) (g : Nat → Int32) : cCell cI cZ cP cF q (cs S 40 i g) i 4 = .inl (cI, 8, .inl g) := by
  show cc4 cI cZ cP cF q (cs S 40 i g) i = _
  unfold cc4
  rw [cs_s]
theorem cput_50 (cI cZ cP cF : Nat) (q : Nat → Nat → Nat) (S : CST) (i : Nat) (g : Nat → Int32) : cCell cI cZ cP cF q (cs S 50 i g) i 5 = .inl (cI, 4, .inl g) := by
  show cc5 cI cZ cP cF q (cs S 50 i g) i = _
  unfold cc5
  rw [cs_s]
theorem cput_60 (cI cZ cP cF : Nat) (q : Nat → Nat → Nat) (S : CST) (i : Nat) (g : Nat → Int32) : cCell cI cZ cP cF q (cs S 60 i g) i 6 = .inl (cI, 80, .inl g) := by
  show cc6 cI cZ cP cF q (cs S 60 i g) i = _
  unfold cc6
  rw [cs_s]
theorem cput_72 (cI cZ cP cF : Nat) (q : Nat → Nat → Nat) (S : CST) (i : Nat) (x : Int32) : cCell cI cZ cP cF q (cs S 72 i (fun _ => x)) i 7 = .inr (3, [.ref (q 8 0), .ref (q 9 0), .int x]) := by
  show cc7 cI cZ cP cF q (cs S 72 i (fun _ => x)) i = _
  unfold cc7
  rw [cs_s]
theorem cput_80 (cI cZ cP cF : Nat) (q : Nat → Nat → Nat) (S : CST) (i : Nat) (g : Nat → Int32) : cCell cI cZ cP cF q (cs S 80 i g) i 8 = .inl (cI, 7555, .inl g) := by
  show cc8 cI cZ cP cF q (cs S 80 i g) i = _
  unfold cc8
  rw [cs_s]
theorem cput_90 (cI cZ cP cF : Nat) (q : Nat → Nat → Nat) (S : CST) (i : Nat) (g : Nat → Int32) : cCell cI cZ cP cF q (cs S 90 i g) i 9 = .inl (cI, 60, .inl g) := by
  show cc9 cI cZ cP cF q (cs S 90 i g) i = _
  unfold cc9
  rw [cs_s]
theorem cput_103 (cI cZ cP cF : Nat) (q : Nat → Nat → Nat) (S : CST) (i : Nat) (x : Int32) : cCell cI cZ cP cF q (cs S 103 i (fun _ => x)) i 10 = .inr (6, [.ref (q 1 0), .ref (q 7 0), .ref (q 11 0), .int x]) := by
  show cc10 cI cZ cP cF q (cs S 103 i (fun _ => x)) i = _
  unfold cc10
  rw [cs_s]
theorem cput_110 (cI cZ cP cF : Nat) (q : Nat → Nat → Nat) (S : CST) (i : Nat) (g : Nat → Int32) : cCell cI cZ cP cF q (cs S 110 i g) i 11 = .inl (cZ, 60, .inl g) := by
  show cc11 cI cZ cP cF q (cs S 110 i g) i = _
  unfold cc11
  rw [cs_s]
theorem cput_126 (cI cZ cP cF : Nat) (q : Nat → Nat → Nat) (S : CST) (i : Nat) (x : Int32) : cCell cI cZ cP cF q (cs S 126 i (fun _ => x)) i 12 = .inr (7, [.ref (q 1 0), .ref (q 3 0), .ref (q 15 0), .ref (q 20 0), .ref (q 13 0), .ref (q 14 0), .int x, .int (cv S 127 i 0), .int (cv S 128 i 0), .int (cv S 129 i 0)]) := by
  show cc12 cI cZ cP cF q (cs S 126 i (fun _ => x)) i = _
  unfold cc12
  rw [cs_s, cs_n S (k := 126) (k' := 127) (i := i) (i' := i) _ (fun w => absurd w.1 (by decide)), cs_n S (k := 126) (k' := 128) (i := i) (i' := i) _ (fun w => absurd w.1 (by decide)), cs_n S (k := 126) (k' := 129) (i := i) (i' := i) _ (fun w => absurd w.1 (by decide))]
theorem cput_127 (cI cZ cP cF : Nat) (q : Nat → Nat → Nat) (S : CST) (i : Nat) (x : Int32) : cCell cI cZ cP cF q (cs S 127 i (fun _ => x)) i 12 = .inr (7, [.ref (q 1 0), .ref (q 3 0), .ref (q 15 0), .ref (q 20 0), .ref (q 13 0), .ref (q 14 0), .int (cv S 126 i 0), .int x, .int (cv S 128 i 0), .int (cv S 129 i 0)]) := by
  show cc12 cI cZ cP cF q (cs S 127 i (fun _ => x)) i = _
  unfold cc12
  rw [cs_s, cs_n S (k := 127) (k' := 126) (i := i) (i' := i) _ (fun w => absurd w.1 (by decide)), cs_n S (k := 127) (k' := 128) (i := i) (i' := i) _ (fun w => absurd w.1 (by decide)), cs_n S (k := 127) (k' := 129) (i := i) (i' := i) _ (fun w => absurd w.1 (by decide))]
theorem cput_128 (cI cZ cP cF : Nat) (q : Nat → Nat → Nat) (S : CST) (i : Nat) (x : Int32) : cCell cI cZ cP cF q (cs S 128 i (fun _ => x)) i 12 = .inr (7, [.ref (q 1 0), .ref (q 3 0), .ref (q 15 0), .ref (q 20 0), .ref (q 13 0), .ref (q 14 0), .int (cv S 126 i 0), .int (cv S 127 i 0), .int x, .int (cv S 129 i 0)]) := by
  show cc12 cI cZ cP cF q (cs S 128 i (fun _ => x)) i = _
  unfold cc12
  rw [cs_s, cs_n S (k := 128) (k' := 126) (i := i) (i' := i) _ (fun w => absurd w.1 (by decide)), cs_n S (k := 128) (k' := 127) (i := i) (i' := i) _ (fun w => absurd w.1 (by decide)), cs_n S (k := 128) (k' := 129) (i := i) (i' := i) _ (fun w => absurd w.1 (by decide))]
theorem cput_129 (cI cZ cP cF : Nat) (q : Nat → Nat → Nat) (S : CST) (i : Nat) (x : Int32) : cCell cI cZ cP cF q (cs S 129 i (fun _ => x)) i 12 = .inr (7, [.ref (q 1 0), .ref (q 3 0), .ref (q 15 0), .ref (q 20 0), .ref (q 13 0), .ref (q 14 0), .int (cv S 126 i 0), .int (cv S 127 i 0), .int (cv S 128 i 0), .int x]) := by
  show cc12 cI cZ cP cF q (cs S 129 i (fun _ => x)) i = _
  unfold cc12
  rw [cs_s, cs_n S (k := 129) (k' := 126) (i := i) (i' := i) _ (fun w => absurd w.1 (by decide)), cs_n S (k := 129) (k' := 127) (i := i) (i' := i) _ (fun w => absurd w.1 (by decide)), cs_n S (k := 129) (k' := 128) (i := i) (i' := i) _ (fun w => absurd w.1 (by decide))]
theorem cput_140 (cI cZ cP cF : Nat) (q : Nat → Nat → Nat) (S : CST) (i : Nat) (g : Nat → Int32) : cCell cI cZ cP cF q (cs S 140 i g) i 14 = .inl (cI, 3, .inl g) := by
  show cc14 cI cZ cP cF q (cs S 140 i g) i = _
  unfold cc14
  rw [cs_s]
theorem cput_160 (cI cZ cP cF : Nat) (q : Nat → Nat → Nat) (S : CST) (i : Nat) (g : Nat → Int32) : cCell cI cZ cP cF q (cs S 160 i g) i 16 = .inl (cZ, 15, .inl g) := by
  show cc16 cI cZ cP cF q (cs S 160 i g) i = _
  unfold cc16
  rw [cs_s]
theorem cput_170 (cI cZ cP cF : Nat) (q : Nat → Nat → Nat) (S : CST) (i : Nat) (g : Nat → Int32) : cCell cI cZ cP cF q (cs S 170 i g) i 17 = .inl (cI, 15, .inl g) := by
  show cc17 cI cZ cP cF q (cs S 170 i g) i = _
  unfold cc17
  rw [cs_s]
theorem cput_180 (cI cZ cP cF : Nat) (q : Nat → Nat → Nat) (S : CST) (i : Nat) (g : Nat → Int32) : cCell cI cZ cP cF q (cs S 180 i g) i 18 = .inl (cZ, 60, .inl g) := by
  show cc18 cI cZ cP cF q (cs S 180 i g) i = _
  unfold cc18
  rw [cs_s]
theorem cput_190 (cI cZ cP cF : Nat) (q : Nat → Nat → Nat) (S : CST) (i : Nat) (g : Nat → Int32) : cCell cI cZ cP cF q (cs S 190 i g) i 19 = .inl (cZ, 11, .inl g) := by
  show cc19 cI cZ cP cF q (cs S 190 i g) i = _
  unfold cc19
  rw [cs_s]
theorem cput_200 (cI cZ cP cF : Nat) (q : Nat → Nat → Nat) (S : CST) (i : Nat) (x : Int32) : cCell cI cZ cP cF q (cs S 200 i (fun _ => x)) i 20 = .inr (10, [.int x, .int (cv S 201 i 0), .int (cv S 202 i 0), .int (cv S 203 i 0), .int (cv S 204 i 0), .int (cv S 205 i 0), .ref (q 21 0)]) := by
  show cc20 cI cZ cP cF q (cs S 200 i (fun _ => x)) i = _
  unfold cc20
  rw [cs_s, cs_n S (k := 200) (k' := 201) (i := i) (i' := i) _ (fun w => absurd w.1 (by decide)), cs_n S (k := 200) (k' := 202) (i := i) (i' := i) _ (fun w => absurd w.1 (by decide)), cs_n S (k := 200) (k' := 203) (i := i) (i' := i) _ (fun w => absurd w.1 (by decide)), cs_n S (k := 200) (k' := 204) (i := i) (i' := i) _ (fun w => absurd w.1 (by decide)), cs_n S (k := 200) (k' := 205) (i := i) (i' := i) _ (fun w => absurd w.1 (by decide))]
theorem cput_201 (cI cZ cP cF : Nat) (q : Nat → Nat → Nat) (S : CST) (i : Nat) (x : Int32) : cCell cI cZ cP cF q (cs S 201 i (fun _ => x)) i 20 = .inr (10, [.int (cv S 200 i 0), .int x, .int (cv S 202 i 0), .int (cv S 203 i 0), .int (cv S 204 i 0), .int (cv S 205 i 0), .ref (q 21 0)]) := by
  show cc20 cI cZ cP cF q (cs S 201 i (fun _ => x)) i = _
  unfold cc20
  rw [cs_s, cs_n S (k := 201) (k' := 200) (i := i) (i' := i) _ (fun w => absurd w.1 (by decide)), cs_n S (k := 201) (k' := 202) (i := i) (i' := i) _ (fun w => absurd w.1 (by decide)), cs_n S (k := 201) (k' := 203) (i := i) (i' := i) _ (fun w => absurd w.1 (by decide)), cs_n S (k := 201) (k' := 204) (i := i) (i' := i) _ (fun w => absurd w.1 (by decide)), cs_n S (k := 201) (k' := 205) (i := i) (i' := i) _ (fun w => absurd w.1 (by decide))]
theorem cput_202 (cI cZ cP cF : Nat) (q : Nat → Nat → Nat) (S : CST) (i : Nat) (x : Int32) : cCell cI cZ cP cF q (cs S 202 i (fun _ => x)) i 20 = .inr (10, [.int (cv S 200 i 0), .int (cv S 201 i 0), .int x, .int (cv S 203 i 0), .int (cv S 204 i 0), .int (cv S 205 i 0), .ref (q 21 0)]) := by
  show cc20 cI cZ cP cF q (cs S 202 i (fun _ => x)) i = _
  unfold cc20
  rw [cs_s, cs_n S (k := 202) (k' := 200) (i := i) (i' := i) _ (fun w => absurd w.1 (by decide)), cs_n S (k := 202) (k' := 201) (i := i) (i' := i) _ (fun w => absurd w.1 (by decide)), cs_n S (k := 202) (k' := 203) (i := i) (i' := i) _ (fun w => absurd w.1 (by decide)), cs_n S (k := 202) (k' := 204) (i := i) (i' := i) _ (fun w => absurd w.1 (by decide)), cs_n S (k := 202) (k' := 205) (i := i) (i' := i) _ (fun w => absurd w.1 (by decide))]
theorem cput_203 (cI cZ cP cF : Nat) (q : Nat → Nat → Nat) (S : CST) (i : Nat) (x : Int32) : cCell cI cZ cP cF q (cs S 203 i (fun _ => x)) i 20 = .inr (10, [.int (cv S 200 i 0), .int (cv S 201 i 0), .int (cv S 202 i 0), .int x, .int (cv S 204 i 0), .int (cv S 205 i 0), .ref (q 21 0)]) := by
  show cc20 cI cZ cP cF q (cs S 203 i (fun _ => x)) i = _
  unfold cc20
  rw [cs_s, cs_n S (k := 203) (k' := 200) (i := i) (i' := i) _ (fun w => absurd w.1 (by decide)), cs_n S (k := 203) (k' := 201) (i := i) (i' := i) _ (fun w => absurd w.1 (by decide)), cs_n S (k := 203) (k' := 202) (i := i) (i' := i) _ (fun w => absurd w.1 (by decide)), cs_n S (k := 203) (k' := 204) (i := i) (i' := i) _ (fun w => absurd w.1 (by decide)), cs_n S (k := 203) (k' := 205) (i := i) (i' := i) _ (fun w => absurd w.1 (by decide))]
theorem cput_204 (cI cZ cP cF : Nat) (q : Nat → Nat → Nat) (S : CST) (i : Nat) (x : Int32) : cCell cI cZ cP cF q (cs S 204 i (fun _ => x)) i 20 = .inr (10, [.int (cv S 200 i 0), .int (cv S 201 i 0), .int (cv S 202 i 0), .int (cv S 203 i 0), .int x, .int (cv S 205 i 0), .ref (q 21 0)]) := by
  show cc20 cI cZ cP cF q (cs S 204 i (fun _ => x)) i = _
  unfold cc20
  rw [cs_s, cs_n S (k := 204) (k' := 200) (i := i) (i' := i) _ (fun w => absurd w.1 (by decide)), cs_n S (k := 204) (k' := 201) (i := i) (i' := i) _ (fun w => absurd w.1 (by decide)), cs_n S (k := 204) (k' := 202) (i := i) (i' := i) _ (fun w => absurd w.1 (by decide)), cs_n S (k := 204) (k' := 203) (i := i) (i' := i) _ (fun w => absurd w.1 (by decide)), cs_n S (k := 204) (k' := 205) (i := i) (i' := i) _ (fun w => absurd w.1 (by decide))]
theorem cput_205 (cI cZ cP cF : Nat) (q : Nat → Nat → Nat) (S : CST) (i : Nat) (x : Int32) : cCell cI cZ cP cF q (cs S 205 i (fun _ => x)) i 20 = .inr (10, [.int (cv S 200 i 0), .int (cv S 201 i 0), .int (cv S 202 i 0), .int (cv S 203 i 0), .int (cv S 204 i 0), .int x, .ref (q 21 0)]) := by
  show cc20 cI cZ cP cF q (cs S 205 i (fun _ => x)) i = _
  unfold cc20
  rw [cs_s, cs_n S (k := 205) (k' := 200) (i := i) (i' := i) _ (fun w => absurd w.1 (by decide)), cs_n S (k := 205) (k' := 201) (i := i) (i' := i) _ (fun w => absurd w.1 (by decide)), cs_n S (k := 205) (k' := 202) (i := i) (i' := i) _ (fun w => absurd w.1 (by decide)), cs_n S (k := 205) (k' := 203) (i := i) (i' := i) _ (fun w => absurd w.1 (by decide)), cs_n S (k := 205) (k' := 204) (i := i) (i' := i) _ (fun w => absurd w.1 (by decide))]
theorem cput_210 (cI cZ cP cF : Nat) (q : Nat → Nat → Nat) (S : CST) (i : Nat) (g : Nat → Int32) : cCell cI cZ cP cF q (cs S 210 i g) i 21 = .inl (cI, 4, .inl g) := by
  show cc21 cI cZ cP cF q (cs S 210 i g) i = _
  unfold cc21
  rw [cs_s]
theorem cput_220 (cI cZ cP cF : Nat) (q : Nat → Nat → Nat) (S : CST) (i : Nat) (x : Int32) : cCell cI cZ cP cF q (cs S 220 i (fun _ => x)) i 22 = .inr (4, [cn q 24 x, cn q 32 (cv S 221 i 0), .int (cv S 222 i 0), .int (cv S 223 i 0), .ref (q 23 i)]) := by
  show cc22 cI cZ cP cF q (cs S 220 i (fun _ => x)) i = _
  unfold cc22
  rw [cs_s, cs_n S (k := 220) (k' := 221) (i := i) (i' := i) _ (fun w => absurd w.1 (by decide)), cs_n S (k := 220) (k' := 222) (i := i) (i' := i) _ (fun w => absurd w.1 (by decide)), cs_n S (k := 220) (k' := 223) (i := i) (i' := i) _ (fun w => absurd w.1 (by decide))]
theorem cput_221 (cI cZ cP cF : Nat) (q : Nat → Nat → Nat) (S : CST) (i : Nat) (x : Int32) : cCell cI cZ cP cF q (cs S 221 i (fun _ => x)) i 22 = .inr (4, [cn q 24 (cv S 220 i 0), cn q 32 x, .int (cv S 222 i 0), .int (cv S 223 i 0), .ref (q 23 i)]) := by
  show cc22 cI cZ cP cF q (cs S 221 i (fun _ => x)) i = _
  unfold cc22
  rw [cs_s, cs_n S (k := 221) (k' := 220) (i := i) (i' := i) _ (fun w => absurd w.1 (by decide)), cs_n S (k := 221) (k' := 222) (i := i) (i' := i) _ (fun w => absurd w.1 (by decide)), cs_n S (k := 221) (k' := 223) (i := i) (i' := i) _ (fun w => absurd w.1 (by decide))]
theorem cput_222 (cI cZ cP cF : Nat) (q : Nat → Nat → Nat) (S : CST) (i : Nat) (x : Int32) : cCell cI cZ cP cF q (cs S 222 i (fun _ => x)) i 22 = .inr (4, [cn q 24 (cv S 220 i 0), cn q 32 (cv S 221 i 0), .int x, .int (cv S 223 i 0), .ref (q 23 i)]) := by
  show cc22 cI cZ cP cF q (cs S 222 i (fun _ => x)) i = _
  unfold cc22
  rw [cs_s, cs_n S (k := 222) (k' := 220) (i := i) (i' := i) _ (fun w => absurd w.1 (by decide)), cs_n S (k := 222) (k' := 221) (i := i) (i' := i) _ (fun w => absurd w.1 (by decide)), cs_n S (k := 222) (k' := 223) (i := i) (i' := i) _ (fun w => absurd w.1 (by decide))]
theorem cput_223 (cI cZ cP cF : Nat) (q : Nat → Nat → Nat) (S : CST) (i : Nat) (x : Int32) : cCell cI cZ cP cF q (cs S 223 i (fun _ => x)) i 22 = .inr (4, [cn q 24 (cv S 220 i 0), cn q 32 (cv S 221 i 0), .int (cv S 222 i 0), .int x, .ref (q 23 i)]) := by
  show cc22 cI cZ cP cF q (cs S 223 i (fun _ => x)) i = _
  unfold cc22
  rw [cs_s, cs_n S (k := 223) (k' := 220) (i := i) (i' := i) _ (fun w => absurd w.1 (by decide)), cs_n S (k := 223) (k' := 221) (i := i) (i' := i) _ (fun w => absurd w.1 (by decide)), cs_n S (k := 223) (k' := 222) (i := i) (i' := i) _ (fun w => absurd w.1 (by decide))]
theorem cput_230 (cI cZ cP cF : Nat) (q : Nat → Nat → Nat) (S : CST) (i : Nat) (g : Nat → Int32) : cCell cI cZ cP cF q (cs S 230 i g) i 23 = .inl (cI, 15, .inl g) := by
  show cc23 cI cZ cP cF q (cs S 230 i g) i = _
  unfold cc23
  rw [cs_s]
theorem cput_240 (cI cZ cP cF : Nat) (q : Nat → Nat → Nat) (S : CST) (i : Nat) (x : Int32) : cCell cI cZ cP cF q (cs S 240 i (fun _ => x)) i 24 = .inr (8, [.int x, .int (cv S 241 i 0), .int (cv S 242 i 0), .ref (q 28 i), .ref (q 25 i), .ref (q 26 i), .ref (q 27 i), .int (cv S 247 i 0), .int (cv S 248 i 0), cn q 32 (cv S 249 i 0)]) := by
  show cc24 cI cZ cP cF q (cs S 240 i (fun _ => x)) i = _
  unfold cc24
  rw [cs_s, cs_n S (k := 240) (k' := 241) (i := i) (i' := i) _ (fun w => absurd w.1 (by decide)), cs_n S (k := 240) (k' := 242) (i := i) (i' := i) _ (fun w => absurd w.1 (by decide)), cs_n S (k := 240) (k' := 247) (i := i) (i' := i) _ (fun w => absurd w.1 (by decide)), cs_n S (k := 240) (k' := 248) (i := i) (i' := i) _ (fun w => absurd w.1 (by decide)), cs_n S (k := 240) (k' := 249) (i := i) (i' := i) _ (fun w => absurd w.1 (by decide))]
theorem cput_241 (cI cZ cP cF : Nat) (q : Nat → Nat → Nat) (S : CST) (i : Nat) (x : Int32) : cCell cI cZ cP cF q (cs S 241 i (fun _ => x)) i 24 = .inr (8, [.int (cv S 240 i 0), .int x, .int (cv S 242 i 0), .ref (q 28 i), .ref (q 25 i), .ref (q 26 i), .ref (q 27 i), .int (cv S 247 i 0), .int (cv S 248 i 0), cn q 32 (cv S 249 i 0)]) := by
  show cc24 cI cZ cP cF q (cs S 241 i (fun _ => x)) i = _
  unfold cc24
  rw [cs_s, cs_n S (k := 241) (k' := 240) (i := i) (i' := i) _ (fun w => absurd w.1 (by decide)), cs_n S (k := 241) (k' := 242) (i := i) (i' := i) _ (fun w => absurd w.1 (by decide)), cs_n S (k := 241) (k' := 247) (i := i) (i' := i) _ (fun w => absurd w.1 (by decide)), cs_n S (k := 241) (k' := 248) (i := i) (i' := i) _ (fun w => absurd w.1 (by decide)), cs_n S (k := 241) (k' := 249) (i := i) (i' := i) _ (fun w => absurd w.1 (by decide))]
theorem cput_242 (cI cZ cP cF : Nat) (q : Nat → Nat → Nat) (S : CST) (i : Nat) (x : Int32) : cCell cI cZ cP cF q (cs S 242 i (fun _ => x)) i 24 = .inr (8, [.int (cv S 240 i 0), .int (cv S 241 i 0), .int x, .ref (q 28 i), .ref (q 25 i), .ref (q 26 i), .ref (q 27 i), .int (cv S 247 i 0), .int (cv S 248 i 0), cn q 32 (cv S 249 i 0)]) := by
  show cc24 cI cZ cP cF q (cs S 242 i (fun _ => x)) i = _
  unfold cc24
  rw [cs_s, cs_n S (k := 242) (k' := 240) (i := i) (i' := i) _ (fun w => absurd w.1 (by decide)), cs_n S (k := 242) (k' := 241) (i := i) (i' := i) _ (fun w => absurd w.1 (by decide)), cs_n S (k := 242) (k' := 247) (i := i) (i' := i) _ (fun w => absurd w.1 (by decide)), cs_n S (k := 242) (k' := 248) (i := i) (i' := i) _ (fun w => absurd w.1 (by decide)), cs_n S (k := 242) (k' := 249) (i := i) (i' := i) _ (fun w => absurd w.1 (by decide))]
theorem cput_247 (cI cZ cP cF : Nat) (q : Nat → Nat → Nat) (S : CST) (i : Nat) (x : Int32) : cCell cI cZ cP cF q (cs S 247 i (fun _ => x)) i 24 = .inr (8, [.int (cv S 240 i 0), .int (cv S 241 i 0), .int (cv S 242 i 0), .ref (q 28 i), .ref (q 25 i), .ref (q 26 i), .ref (q 27 i), .int x, .int (cv S 248 i 0), cn q 32 (cv S 249 i 0)]) := by
  show cc24 cI cZ cP cF q (cs S 247 i (fun _ => x)) i = _
  unfold cc24
  rw [cs_s, cs_n S (k := 247) (k' := 240) (i := i) (i' := i) _ (fun w => absurd w.1 (by decide)), cs_n S (k := 247) (k' := 241) (i := i) (i' := i) _ (fun w => absurd w.1 (by decide)), cs_n S (k := 247) (k' := 242) (i := i) (i' := i) _ (fun w => absurd w.1 (by decide)), cs_n S (k := 247) (k' := 248) (i := i) (i' := i) _ (fun w => absurd w.1 (by decide)), cs_n S (k := 247) (k' := 249) (i := i) (i' := i) _ (fun w => absurd w.1 (by decide))]
theorem cput_248 (cI cZ cP cF : Nat) (q : Nat → Nat → Nat) (S : CST) (i : Nat) (x : Int32) : cCell cI cZ cP cF q (cs S 248 i (fun _ => x)) i 24 = .inr (8, [.int (cv S 240 i 0), .int (cv S 241 i 0), .int (cv S 242 i 0), .ref (q 28 i), .ref (q 25 i), .ref (q 26 i), .ref (q 27 i), .int (cv S 247 i 0), .int x, cn q 32 (cv S 249 i 0)]) := by
  show cc24 cI cZ cP cF q (cs S 248 i (fun _ => x)) i = _
  unfold cc24
  rw [cs_s, cs_n S (k := 248) (k' := 240) (i := i) (i' := i) _ (fun w => absurd w.1 (by decide)), cs_n S (k := 248) (k' := 241) (i := i) (i' := i) _ (fun w => absurd w.1 (by decide)), cs_n S (k := 248) (k' := 242) (i := i) (i' := i) _ (fun w => absurd w.1 (by decide)), cs_n S (k := 248) (k' := 247) (i := i) (i' := i) _ (fun w => absurd w.1 (by decide)), cs_n S (k := 248) (k' := 249) (i := i) (i' := i) _ (fun w => absurd w.1 (by decide))]
theorem cput_249 (cI cZ cP cF : Nat) (q : Nat → Nat → Nat) (S : CST) (i : Nat) (x : Int32) : cCell cI cZ cP cF q (cs S 249 i (fun _ => x)) i 24 = .inr (8, [.int (cv S 240 i 0), .int (cv S 241 i 0), .int (cv S 242 i 0), .ref (q 28 i), .ref (q 25 i), .ref (q 26 i), .ref (q 27 i), .int (cv S 247 i 0), .int (cv S 248 i 0), cn q 32 x]) := by
  show cc24 cI cZ cP cF q (cs S 249 i (fun _ => x)) i = _
  unfold cc24
  rw [cs_s, cs_n S (k := 249) (k' := 240) (i := i) (i' := i) _ (fun w => absurd w.1 (by decide)), cs_n S (k := 249) (k' := 241) (i := i) (i' := i) _ (fun w => absurd w.1 (by decide)), cs_n S (k := 249) (k' := 242) (i := i) (i' := i) _ (fun w => absurd w.1 (by decide)), cs_n S (k := 249) (k' := 247) (i := i) (i' := i) _ (fun w => absurd w.1 (by decide)), cs_n S (k := 249) (k' := 248) (i := i) (i' := i) _ (fun w => absurd w.1 (by decide))]
theorem cput_250 (cI cZ cP cF : Nat) (q : Nat → Nat → Nat) (S : CST) (i : Nat) (g : Nat → Int32) : cCell cI cZ cP cF q (cs S 250 i g) i 25 = .inl (cI, 60, .inl g) := by
  show cc25 cI cZ cP cF q (cs S 250 i g) i = _
  unfold cc25
  rw [cs_s]
theorem cput_260 (cI cZ cP cF : Nat) (q : Nat → Nat → Nat) (S : CST) (i : Nat) (g : Nat → Int32) : cCell cI cZ cP cF q (cs S 260 i g) i 26 = .inl (cI, 60, .inl g) := by
  show cc26 cI cZ cP cF q (cs S 260 i g) i = _
  unfold cc26
  rw [cs_s]
theorem cput_270 (cI cZ cP cF : Nat) (q : Nat → Nat → Nat) (S : CST) (i : Nat) (g : Nat → Int32) : cCell cI cZ cP cF q (cs S 270 i g) i 27 = .inl (cI, 60, .inl g) := by
  show cc27 cI cZ cP cF q (cs S 270 i g) i = _
  unfold cc27
  rw [cs_s]
theorem cput_280 (cI cZ cP cF : Nat) (q : Nat → Nat → Nat) (S : CST) (i : Nat) (x : Int32) : cCell cI cZ cP cF q (cs S 280 i (fun _ => x)) i 28 = .inr (5, [.int x, cn q 32 (cv S 281 i 0), .int (cv S 282 i 0), .int (cv S 283 i 0), .int (cv S 284 i 0), .int (cv S 285 i 0), .ref (q 29 i), .ref (q 30 i), .ref (q 31 i)]) := by
  show cc28 cI cZ cP cF q (cs S 280 i (fun _ => x)) i = _
  unfold cc28
  rw [cs_s, cs_n S (k := 280) (k' := 281) (i := i) (i' := i) _ (fun w => absurd w.1 (by decide)), cs_n S (k := 280) (k' := 282) (i := i) (i' := i) _ (fun w => absurd w.1 (by decide)), cs_n S (k := 280) (k' := 283) (i := i) (i' := i) _ (fun w => absurd w.1 (by decide)), cs_n S (k := 280) (k' := 284) (i := i) (i' := i) _ (fun w => absurd w.1 (by decide)), cs_n S (k := 280) (k' := 285) (i := i) (i' := i) _ (fun w => absurd w.1 (by decide))]
theorem cput_281 (cI cZ cP cF : Nat) (q : Nat → Nat → Nat) (S : CST) (i : Nat) (x : Int32) : cCell cI cZ cP cF q (cs S 281 i (fun _ => x)) i 28 = .inr (5, [.int (cv S 280 i 0), cn q 32 x, .int (cv S 282 i 0), .int (cv S 283 i 0), .int (cv S 284 i 0), .int (cv S 285 i 0), .ref (q 29 i), .ref (q 30 i), .ref (q 31 i)]) := by
  show cc28 cI cZ cP cF q (cs S 281 i (fun _ => x)) i = _
  unfold cc28
  rw [cs_s, cs_n S (k := 281) (k' := 280) (i := i) (i' := i) _ (fun w => absurd w.1 (by decide)), cs_n S (k := 281) (k' := 282) (i := i) (i' := i) _ (fun w => absurd w.1 (by decide)), cs_n S (k := 281) (k' := 283) (i := i) (i' := i) _ (fun w => absurd w.1 (by decide)), cs_n S (k := 281) (k' := 284) (i := i) (i' := i) _ (fun w => absurd w.1 (by decide)), cs_n S (k := 281) (k' := 285) (i := i) (i' := i) _ (fun w => absurd w.1 (by decide))]
theorem cput_282 (cI cZ cP cF : Nat) (q : Nat → Nat → Nat) (S : CST) (i : Nat) (x : Int32) : cCell cI cZ cP cF q (cs S 282 i (fun _ => x)) i 28 = .inr (5, [.int (cv S 280 i 0), cn q 32 (cv S 281 i 0), .int x, .int (cv S 283 i 0), .int (cv S 284 i 0), .int (cv S 285 i 0), .ref (q 29 i), .ref (q 30 i), .ref (q 31 i)]) := by
  show cc28 cI cZ cP cF q (cs S 282 i (fun _ => x)) i = _
  unfold cc28
  rw [cs_s, cs_n S (k := 282) (k' := 280) (i := i) (i' := i) _ (fun w => absurd w.1 (by decide)), cs_n S (k := 282) (k' := 281) (i := i) (i' := i) _ (fun w => absurd w.1 (by decide)), cs_n S (k := 282) (k' := 283) (i := i) (i' := i) _ (fun w => absurd w.1 (by decide)), cs_n S (k := 282) (k' := 284) (i := i) (i' := i) _ (fun w => absurd w.1 (by decide)), cs_n S (k := 282) (k' := 285) (i := i) (i' := i) _ (fun w => absurd w.1 (by decide))]
theorem cput_283 (cI cZ cP cF : Nat) (q : Nat → Nat → Nat) (S : CST) (i : Nat) (x : Int32) : cCell cI cZ cP cF q (cs S 283 i (fun _ => x)) i 28 = .inr (5, [.int (cv S 280 i 0), cn q 32 (cv S 281 i 0), .int (cv S 282 i 0), .int x, .int (cv S 284 i 0), .int (cv S 285 i 0), .ref (q 29 i), .ref (q 30 i), .ref (q 31 i)]) := by
  show cc28 cI cZ cP cF q (cs S 283 i (fun _ => x)) i = _
  unfold cc28
  rw [cs_s, cs_n S (k := 283) (k' := 280) (i := i) (i' := i) _ (fun w => absurd w.1 (by decide)), cs_n S (k := 283) (k' := 281) (i := i) (i' := i) _ (fun w => absurd w.1 (by decide)), cs_n S (k := 283) (k' := 282) (i := i) (i' := i) _ (fun w => absurd w.1 (by decide)), cs_n S (k := 283) (k' := 284) (i := i) (i' := i) _ (fun w => absurd w.1 (by decide)), cs_n S (k := 283) (k' := 285) (i := i) (i' := i) _ (fun w => absurd w.1 (by decide))]
theorem cput_284 (cI cZ cP cF : Nat) (q : Nat → Nat → Nat) (S : CST) (i : Nat) (x : Int32) : cCell cI cZ cP cF q (cs S 284 i (fun _ => x)) i 28 = .inr (5, [.int (cv S 280 i 0), cn q 32 (cv S 281 i 0), .int (cv S 282 i 0), .int (cv S 283 i 0), .int x, .int (cv S 285 i 0), .ref (q 29 i), .ref (q 30 i), .ref (q 31 i)]) := by
  show cc28 cI cZ cP cF q (cs S 284 i (fun _ => x)) i = _
  unfold cc28
  rw [cs_s, cs_n S (k := 284) (k' := 280) (i := i) (i' := i) _ (fun w => absurd w.1 (by decide)), cs_n S (k := 284) (k' := 281) (i := i) (i' := i) _ (fun w => absurd w.1 (by decide)), cs_n S (k := 284) (k' := 282) (i := i) (i' := i) _ (fun w => absurd w.1 (by decide)), cs_n S (k := 284) (k' := 283) (i := i) (i' := i) _ (fun w => absurd w.1 (by decide)), cs_n S (k := 284) (k' := 285) (i := i) (i' := i) _ (fun w => absurd w.1 (by decide))]
theorem cput_285 (cI cZ cP cF : Nat) (q : Nat → Nat → Nat) (S : CST) (i : Nat) (x : Int32) : cCell cI cZ cP cF q (cs S 285 i (fun _ => x)) i 28 = .inr (5, [.int (cv S 280 i 0), cn q 32 (cv S 281 i 0), .int (cv S 282 i 0), .int (cv S 283 i 0), .int (cv S 284 i 0), .int x, .ref (q 29 i), .ref (q 30 i), .ref (q 31 i)]) := by
  show cc28 cI cZ cP cF q (cs S 285 i (fun _ => x)) i = _
  unfold cc28
  rw [cs_s, cs_n S (k := 285) (k' := 280) (i := i) (i' := i) _ (fun w => absurd w.1 (by decide)), cs_n S (k := 285) (k' := 281) (i := i) (i' := i) _ (fun w => absurd w.1 (by decide)), cs_n S (k := 285) (k' := 282) (i := i) (i' := i) _ (fun w => absurd w.1 (by decide)), cs_n S (k := 285) (k' := 283) (i := i) (i' := i) _ (fun w => absurd w.1 (by decide)), cs_n S (k := 285) (k' := 284) (i := i) (i' := i) _ (fun w => absurd w.1 (by decide))]
theorem cput_290 (cI cZ cP cF : Nat) (q : Nat → Nat → Nat) (S : CST) (i : Nat) (g : Nat → Int32) : cCell cI cZ cP cF q (cs S 290 i g) i 29 = .inl (cI, 11, .inl g) := by
  show cc29 cI cZ cP cF q (cs S 290 i g) i = _
  unfold cc29
  rw [cs_s]
theorem cput_300 (cI cZ cP cF : Nat) (q : Nat → Nat → Nat) (S : CST) (i : Nat) (g : Nat → Int32) : cCell cI cZ cP cF q (cs S 300 i g) i 30 = .inl (cZ, 11, .inl g) := by
  show cc30 cI cZ cP cF q (cs S 300 i g) i = _
  unfold cc30
  rw [cs_s]
theorem cput_310 (cI cZ cP cF : Nat) (q : Nat → Nat → Nat) (S : CST) (i : Nat) (g : Nat → Int32) : cCell cI cZ cP cF q (cs S 310 i g) i 31 = .inl (cZ, 11, .inl g) := by
  show cc31 cI cZ cP cF q (cs S 310 i g) i = _
  unfold cc31
  rw [cs_s]
theorem cput_320 (cI cZ cP cF : Nat) (q : Nat → Nat → Nat) (S : CST) (i : Nat) (x : Int32) : cCell cI cZ cP cF q (cs S 320 i (fun _ => x)) i 32 = .inr (1, [.int x, .int (cv S 321 i 0), .ref (q 33 i), .ref (q 34 i)]) := by
  show cc32 cI cZ cP cF q (cs S 320 i (fun _ => x)) i = _
  unfold cc32
  rw [cs_s, cs_n S (k := 320) (k' := 321) (i := i) (i' := i) _ (fun w => absurd w.1 (by decide))]
theorem cput_321 (cI cZ cP cF : Nat) (q : Nat → Nat → Nat) (S : CST) (i : Nat) (x : Int32) : cCell cI cZ cP cF q (cs S 321 i (fun _ => x)) i 32 = .inr (1, [.int (cv S 320 i 0), .int x, .ref (q 33 i), .ref (q 34 i)]) := by
  show cc32 cI cZ cP cF q (cs S 321 i (fun _ => x)) i = _
  unfold cc32
  rw [cs_s, cs_n S (k := 321) (k' := 320) (i := i) (i' := i) _ (fun w => absurd w.1 (by decide))]
