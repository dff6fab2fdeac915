/-! where each object stands in the class's world -/
theorem cn_neg {q : Nat → Nat → Nat} {k : Nat} {x : Int32} (h : x < 0) : cn q k x = .null := by
  unfold cn cno
  rw [if_pos h]
  rfl
theorem cn_pos {q : Nat → Nat → Nat} {k : Nat} {x : Int32} (h : ¬ x < 0) : cn q k x = .ref (q k x.toNatClampNeg) := by
  unfold cn cno
  rw [if_neg h]
  rfl
theorem cget_0 (cI cZ cP cF : Nat) (q : Nat → Nat → Nat) (S : CST) : ∃ p : Nat, (cW cI cZ cP cF q S)[p]? = some (q 0 0, .inr (11, [.ref (q 1 0), .ref (q 3 0), .ref (q 10 0), .ref (q 12 0)])) := cW_get (k := 0) (i := 0) (Or.inl ⟨by decide, rfl⟩)
theorem cget_1 (cI cZ cP cF : Nat) (q : Nat → Nat → Nat) (S : CST) : ∃ p : Nat, (cW cI cZ cP cF q S)[p]? = some (q 1 0, .inr (0, [.ref (q 2 0), .int (cv S 11 0 0)])) := cW_get (k := 1) (i := 0) (Or.inl ⟨by decide, rfl⟩)
theorem cget_2 (cI cZ cP cF : Nat) (q : Nat → Nat → Nat) (S : CST) : ∃ p : Nat, (cW cI cZ cP cF q S)[p]? = some (q 2 0, .inl (cP, 8, .inr (.inr (.inr (.inr (fun j => cno q 24 (cv S 20 0 j))))))) := cW_get (k := 2) (i := 0) (Or.inl ⟨by decide, rfl⟩)
theorem cget_3 (cI cZ cP cF : Nat) (q : Nat → Nat → Nat) (S : CST) : ∃ p : Nat, (cW cI cZ cP cF q S)[p]? = some (q 3 0, .inr (2, [.ref (q 4 0), .ref (q 5 0), .ref (q 6 0)])) := cW_get (k := 3) (i := 0) (Or.inl ⟨by decide, rfl⟩)
theorem cget_4 (cI cZ cP cF : Nat) (q : Nat → Nat → Nat) (S : CST) : ∃ p : Nat, (cW cI cZ cP cF q S)[p]? = some (q 4 0, .inl (cI, 8, .inl (cv S 40 0))) := cW_get (k := 4) (i := 0) (Or.inl ⟨by decide, rfl⟩)
theorem cget_5 (cI cZ cP cF : Nat) (q : Nat → Nat → Nat) (S : CST) : ∃ p : Nat, (cW cI cZ cP cF q S)[p]? = some (q 5 0, .inl (cI, 4, .inl (cv S 50 0))) := cW_get (k := 5) (i := 0) (Or.inl ⟨by decide, rfl⟩)
theorem cget_6 (cI cZ cP cF : Nat) (q : Nat → Nat → Nat) (S : CST) : ∃ p : Nat, (cW cI cZ cP cF q S)[p]? = some (q 6 0, .inl (cI, 80, .inl (cv S 60 0))) := cW_get (k := 6) (i := 0) (Or.inl ⟨by decide, rfl⟩)
theorem cget_7 (cI cZ cP cF : Nat) (q : Nat → Nat → Nat) (S : CST) : ∃ p : Nat, (cW cI cZ cP cF q S)[p]? = some (q 7 0, .inr (3, [.ref (q 8 0), .ref (q 9 0), .int (cv S 72 0 0)])) := cW_get (k := 7) (i := 0) (Or.inl ⟨by decide, rfl⟩)
theorem cget_8 (cI cZ cP cF : Nat) (q : Nat → Nat → Nat) (S : CST) : ∃ p : Nat, (cW cI cZ cP cF q S)[p]? = some (q 8 0, .inl (cI, 7555, .inl (cv S 80 0))) := cW_get (k := 8) (i := 0) (Or.inl ⟨by decide, rfl⟩)
theorem cget_9 (cI cZ cP cF : Nat) (q : Nat → Nat → Nat) (S : CST) : ∃ p : Nat, (cW cI cZ cP cF q S)[p]? = some (q 9 0, .inl (cI, 60, .inl (cv S 90 0))) := cW_get (k := 9) (i := 0) (Or.inl ⟨by decide, rfl⟩)
theorem cget_10 (cI cZ cP cF : Nat) (q : Nat → Nat → Nat) (S : CST) : ∃ p : Nat, (cW cI cZ cP cF q S)[p]? = some (q 10 0, .inr (6, [.ref (q 1 0), .ref (q 7 0), .ref (q 11 0), .int (cv S 103 0 0)])) := cW_get (k := 10) (i := 0) (Or.inl ⟨by decide, rfl⟩)
theorem cget_11 (cI cZ cP cF : Nat) (q : Nat → Nat → Nat) (S : CST) : ∃ p : Nat, (cW cI cZ cP cF q S)[p]? = some (q 11 0, .inl (cZ, 60, .inl (cv S 110 0))) := cW_get (k := 11) (i := 0) (Or.inl ⟨by decide, rfl⟩)
theorem cget_12 (cI cZ cP cF : Nat) (q : Nat → Nat → Nat) (S : CST) : ∃ p : Nat, (cW cI cZ cP cF q S)[p]? = some (q 12 0, .inr (7, [.ref (q 1 0), .ref (q 3 0), .ref (q 15 0), .ref (q 20 0), .ref (q 13 0), .ref (q 14 0), .int (cv S 126 0 0), .int (cv S 127 0 0), .int (cv S 128 0 0), .int (cv S 129 0 0)])) := cW_get (k := 12) (i := 0) (Or.inl ⟨by decide, rfl⟩)
theorem cget_13 (cI cZ cP cF : Nat) (q : Nat → Nat → Nat) (S : CST) : ∃ p : Nat, (cW cI cZ cP cF q S)[p]? = some (q 13 0, .inl (cF, 16, .inr (.inr (.inr (.inr (fun j => some (q 22 j))))))) := cW_get (k := 13) (i := 0) (Or.inl ⟨by decide, rfl⟩)
theorem cget_14 (cI cZ cP cF : Nat) (q : Nat → Nat → Nat) (S : CST) : ∃ p : Nat, (cW cI cZ cP cF q S)[p]? = some (q 14 0, .inl (cI, 3, .inl (cv S 140 0))) := cW_get (k := 14) (i := 0) (Or.inl ⟨by decide, rfl⟩)
theorem cget_15 (cI cZ cP cF : Nat) (q : Nat → Nat → Nat) (S : CST) : ∃ p : Nat, (cW cI cZ cP cF q S)[p]? = some (q 15 0, .inr (9, [.ref (q 7 0), .ref (q 16 0), .ref (q 17 0), .ref (q 18 0), .ref (q 19 0)])) := cW_get (k := 15) (i := 0) (Or.inl ⟨by decide, rfl⟩)
theorem cget_16 (cI cZ cP cF : Nat) (q : Nat → Nat → Nat) (S : CST) : ∃ p : Nat, (cW cI cZ cP cF q S)[p]? = some (q 16 0, .inl (cZ, 15, .inl (cv S 160 0))) := cW_get (k := 16) (i := 0) (Or.inl ⟨by decide, rfl⟩)
theorem cget_17 (cI cZ cP cF : Nat) (q : Nat → Nat → Nat) (S : CST) : ∃ p : Nat, (cW cI cZ cP cF q S)[p]? = some (q 17 0, .inl (cI, 15, .inl (cv S 170 0))) := cW_get (k := 17) (i := 0) (Or.inl ⟨by decide, rfl⟩)
theorem cget_18 (cI cZ cP cF : Nat) (q : Nat → Nat → Nat) (S : CST) : ∃ p : Nat, (cW cI cZ cP cF q S)[p]? = some (q 18 0, .inl (cZ, 60, .inl (cv S 180 0))) := cW_get (k := 18) (i := 0) (Or.inl ⟨by decide, rfl⟩)
theorem cget_19 (cI cZ cP cF : Nat) (q : Nat → Nat → Nat) (S : CST) : ∃ p : Nat, (cW cI cZ cP cF q S)[p]? = some (q 19 0, .inl (cZ, 11, .inl (cv S 190 0))) := cW_get (k := 19) (i := 0) (Or.inl ⟨by decide, rfl⟩)
theorem cget_20 (cI cZ cP cF : Nat) (q : Nat → Nat → Nat) (S : CST) : ∃ p : Nat, (cW cI cZ cP cF q S)[p]? = some (q 20 0, .inr (10, [.int (cv S 200 0 0), .int (cv S 201 0 0), .int (cv S 202 0 0), .int (cv S 203 0 0), .int (cv S 204 0 0), .int (cv S 205 0 0), .ref (q 21 0)])) := cW_get (k := 20) (i := 0) (Or.inl ⟨by decide, rfl⟩)
theorem cget_21 (cI cZ cP cF : Nat) (q : Nat → Nat → Nat) (S : CST) : ∃ p : Nat, (cW cI cZ cP cF q S)[p]? = some (q 21 0, .inl (cI, 4, .inl (cv S 210 0))) := cW_get (k := 21) (i := 0) (Or.inl ⟨by decide, rfl⟩)
theorem cget_22 (cI cZ cP cF : Nat) (q : Nat → Nat → Nat) (S : CST) {i : Nat} (h : cin S 22 i) : ∃ p : Nat, (cW cI cZ cP cF q S)[p]? = some (q 22 i, .inr (4, [cn q 24 (cv S 220 i 0), cn q 32 (cv S 221 i 0), .int (cv S 222 i 0), .int (cv S 223 i 0), .ref (q 23 i)])) := cW_get (k := 22) (i := i) h
theorem cget_23 (cI cZ cP cF : Nat) (q : Nat → Nat → Nat) (S : CST) {i : Nat} (h : cin S 23 i) : ∃ p : Nat, (cW cI cZ cP cF q S)[p]? = some (q 23 i, .inl (cI, 15, .inl (cv S 230 i))) := cW_get (k := 23) (i := i) h
theorem cget_24 (cI cZ cP cF : Nat) (q : Nat → Nat → Nat) (S : CST) {i : Nat} (h : cin S 24 i) : ∃ p : Nat, (cW cI cZ cP cF q S)[p]? = some (q 24 i, .inr (8, [.int (cv S 240 i 0), .int (cv S 241 i 0), .int (cv S 242 i 0), .ref (q 28 i), .ref (q 25 i), .ref (q 26 i), .ref (q 27 i), .int (cv S 247 i 0), .int (cv S 248 i 0), cn q 32 (cv S 249 i 0)])) := cW_get (k := 24) (i := i) h
theorem cget_25 (cI cZ cP cF : Nat) (q : Nat → Nat → Nat) (S : CST) {i : Nat} (h : cin S 25 i) : ∃ p : Nat, (cW cI cZ cP cF q S)[p]? = some (q 25 i, .inl (cI, 60, .inl (cv S 250 i))) := cW_get (k := 25) (i := i) h
theorem cget_26 (cI cZ cP cF : Nat) (q : Nat → Nat → Nat) (S : CST) {i : Nat} (h : cin S 26 i) : ∃ p : Nat, (cW cI cZ cP cF q S)[p]? = some (q 26 i, .inl (cI, 60, .inl (cv S 260 i))) := cW_get (k := 26) (i := i) h
theorem cget_27 (cI cZ cP cF : Nat) (q : Nat → Nat → Nat) (S : CST) {i : Nat} (h : cin S 27 i) : ∃ p : Nat, (cW cI cZ cP cF q S)[p]? = some (q 27 i, .inl (cI, 60, .inl (cv S 270 i))) := cW_get (k := 27) (i := i) h
theorem cget_28 (cI cZ cP cF : Nat) (q : Nat → Nat → Nat) (S : CST) {i : Nat} (h : cin S 28 i) : ∃ p : Nat, (cW cI cZ cP cF q S)[p]? = some (q 28 i, .inr (5, [.int (cv S 280 i 0), cn q 32 (cv S 281 i 0), .int (cv S 282 i 0), .int (cv S 283 i 0), .int (cv S 284 i 0), .int (cv S 285 i 0), .ref (q 29 i), .ref (q 30 i), .ref (q 31 i)])) := cW_get (k := 28) (i := i) h
theorem cget_29 (cI cZ cP cF : Nat) (q : Nat → Nat → Nat) (S : CST) {i : Nat} (h : cin S 29 i) : ∃ p : Nat, (cW cI cZ cP cF q S)[p]? = some (q 29 i, .inl (cI, 11, .inl (cv S 290 i))) := cW_get (k := 29) (i := i) h
theorem cget_30 (cI cZ cP cF : Nat) (q : Nat → Nat → Nat) (S : CST) {i : Nat} (h : cin S 30 i) : ∃ p : Nat, (cW cI cZ cP cF q S)[p]? = some (q 30 i, .inl (cZ, 11, .inl (cv S 300 i))) := cW_get (k := 30) (i := i) h
theorem cget_31 (cI cZ cP cF : Nat) (q : Nat → Nat → Nat) (S : CST) {i : Nat} (h : cin S 31 i) : ∃ p : Nat, (cW cI cZ cP cF q S)[p]? = some (q 31 i, .inl (cZ, 11, .inl (cv S 310 i))) := cW_get (k := 31) (i := i) h
theorem cget_32 (cI cZ cP cF : Nat) (q : Nat → Nat → Nat) (S : CST) {i : Nat} (h : cin S 32 i) : ∃ p : Nat, (cW cI cZ cP cF q S)[p]? = some (q 32 i, .inr (1, [.int (cv S 320 i 0), .int (cv S 321 i 0), .ref (q 33 i), .ref (q 34 i)])) := cW_get (k := 32) (i := i) h
theorem cget_33 (cI cZ cP cF : Nat) (q : Nat → Nat → Nat) (S : CST) {i : Nat} (h : cin S 33 i) : ∃ p : Nat, (cW cI cZ cP cF q S)[p]? = some (q 33 i, .inl (cI, ((cv S 339 i 0).toNatClampNeg), .inl (cv S 330 i))) := cW_get (k := 33) (i := i) h
theorem cget_34 (cI cZ cP cF : Nat) (q : Nat → Nat → Nat) (S : CST) {i : Nat} (h : cin S 34 i) : ∃ p : Nat, (cW cI cZ cP cF q S)[p]? = some (q 34 i, .inl (cI, ((cv S 349 i 0).toNatClampNeg), .inl (cv S 340 i))) := cW_get (k := 34) (i := i) h
