/-! CLASS AND REFERENCE, side by side: what both hold between calls, and in the midst of a run -/
/-- each INSTRUCTION that is come to is come to from somewhere -/
def BkM (Sm : MST) (y : Nat) : Prop := ∀ n i : Nat, Sm 3 y = nI n → n ≤ 60 → i < n → ¬ i = 0 → ¬ Sm 7 (60 * y + i) = -1 → (∃ j : Nat, j < n ∧ ¬ Sm 7 (60 * y + j) = -1 ∧ (Sm 4 (60 * y + j) = nI 9 ∨ Sm 4 (60 * y + j) = nI 10) ∧ Sm 5 (60 * y + j) = nI i) ∨ (¬ Sm 7 (60 * y + (i - 1)) = -1 ∧ ¬ Sm 4 (60 * y + (i - 1)) = nI 9 ∧ ¬ Sm 4 (60 * y + (i - 1)) = nI 12)
/-- the plain PARTS of METHOD y lie there -/
def PlR (S : CST) (y : Nat) : Prop := ¬ cv S 248 y 0 = -1 → ∃ c n : Nat, cv S 249 y 0 = nI c ∧ c < cnC S ∧ cv S 247 y 0 = nI n ∧ n ≤ 60 ∧ PlC S y c n
/-- code c of the class is the j-th code of METHOD y -/
def CdX (S : CST) (Sm : MST) (y j c N h n : Nat) (P : Nat → T5) (as : Nat → Bool) (val : Nat → Int32) (st : Nat → Nat) : Prop := Sm 3 y = nI n ∧ n ≤ 60 ∧ 1 ≤ N ∧ N ≤ 640 ∧ CdS as val h N P ∧ st 0 = h ∧ CodC S c (nI (j + 1)) h N n P st (fun i => ¬ Sm 7 (60 * y + i) = -1) ∧ CodM Sm (12 * y + j) N n P st (fun i => ¬ Sm 7 (60 * y + i) = -1)
def CdR (S : CST) (Sm : MST) (y j c : Nat) : Prop := ∃ (N h n : Nat) (P : Nat → T5) (as : Nat → Bool) (val : Nat → Int32) (st : Nat → Nat), CdX S Sm y j c N h n P as val st
/-- how hot METHOD y is -/
def HtR (S : CST) (Sm : MST) (y : Nat) : Prop := cv S 280 y 0 = Sm 15 y ∧ cv S 282 y 0 = Sm 16 y ∧ cv S 283 y 0 = Sm 17 y ∧ cv S 284 y 0 = Sm 18 y ∧ cv S 285 y 0 = Sm 19 y ∧ (∀ t : Nat, t < 11 → cv S 310 y t = Sm 22 (11 * y + t)) ∧
  (∃ c : Nat, c ≤ 3 ∧ Sm 16 y = nI c ∧ (1 ≤ c → ∀ t : Nat, t < 11 → cv S 290 y t = Sm 20 (11 * y + t) ∧ cv S 300 y t = Sm 21 (11 * y + t) ∧ (Sm 21 (11 * y + t) = 0 ∨ Sm 21 (11 * y + t) = 1))) ∧
  (Sm 17 y = 0 → cv S 281 y 0 < 0) ∧ ∀ k : Nat, k < 12 → Sm 17 y = nI (k + 1) → ∃ c : Nat, cv S 281 y 0 = nI c ∧ c < cnC S ∧ CdR S Sm y k c
/-- what was not told is not hot -/
def QZ (Sm : MST) (P : Nat) : Prop := ∀ y : Nat, P ≤ y → y < 8 → Sm 16 y = 0 ∧ Sm 18 y = 0 ∧ Sm 19 y = 0 ∧ ∀ t : Nat, t < 11 → Sm 22 (11 * y + t) = 0
/-- the METHODS, whole -/
def MeR (S : CST) (Sm : MST) : Prop := PR S Sm ∧ (∀ y : Nat, y < cnP S → Sm 6 y = 1 → BkM Sm y) ∧ (∀ y : Nat, y < cnP S → PlR S y) ∧ (∀ y : Nat, y < cnP S → HtR S Sm y) ∧ QZ Sm (cnP S)
/-- FIELDS, ROWS -/
def DaR (S : CST) (Sm : MST) : Prop := (∀ f : Nat, f < 8 → cv S 40 0 f = Sm 12 f) ∧ ∀ r : Nat, r < 4 → cv S 50 0 r = Sm 13 r ∧ ∀ n i : Nat, Sm 13 r = nI n → n ≤ 20 → i < n → cv S 60 0 (20 * r + i) = Sm 14 (20 * r + i)
/-- what is told of the latest run -/
def TaR (S : CST) (Sm : MST) : Prop := cv S 200 0 0 = Sm 48 0 ∧ (∃ r : Nat, r ≤ 80 ∧ Sm 48 0 = nI r) ∧ cv S 202 0 0 = Sm 45 0 ∧ cv S 203 0 0 = Sm 46 0 ∧ cv S 204 0 0 = Sm 47 0 ∧ cv S 205 0 0 = Sm 49 0 ∧ ∀ t : Nat, t < 4 → cv S 210 0 t = Sm 50 t
def FR1 (S : CST) (Sm : MST) : Prop := MeR S Sm ∧ DaR S Sm ∧ TaR S Sm
/-- the slots that MeR speaks of -/
def meC (k : Nat) : Bool := [20, 103, 240, 241, 242, 247, 248, 249, 250, 260, 270, 280, 281, 282, 283, 284, 285, 290, 300, 310].contains k || Nat.ble 320 k
def meM (k : Nat) : Bool := Nat.ble k 9 || (Nat.ble 15 k && Nat.ble k 29)
theorem MeR.same {S S' : CST} {Sm Sm' : MST} (h : MeR S Sm) (e1 : S'.2 = S.2) (e : ∀ k : Nat, meC k = true → cv S' k = cv S k) (em : ∀ k : Nat, meM k = true → Sm' k = Sm k) : MeR S' Sm' := by
  have p1 : cnP S' = cnP S := congrArg Prod.fst e1
  have p2 : cnC S' = cnC S := congrArg Prod.snd e1
  unfold MeR PR PRy BkM PlR PlC lvC HtR CdR CdX CodC CodM QZ at h ⊢
  simp only [p1, p2, e 20 rfl, e 103 rfl, e 240 rfl, e 241 rfl, e 242 rfl, e 247 rfl, e 248 rfl, e 249 rfl, e 250 rfl, e 260 rfl, e 270 rfl, e 280 rfl, e 281 rfl, e 282 rfl, e 283 rfl, e 284 rfl, e 285 rfl, e 290 rfl, e 300 rfl, e 310 rfl, e 320 rfl, e 321 rfl, e 330 rfl, e 339 rfl, e 340 rfl, e 349 rfl, em 1 rfl, em 2 rfl, em 3 rfl, em 4 rfl, em 5 rfl, em 6 rfl, em 7 rfl, em 8 rfl, em 9 rfl, em 15 rfl, em 16 rfl, em 17 rfl, em 18 rfl, em 19 rfl, em 20 rfl, em 21 rfl, em 22 rfl, em 23 rfl, em 24 rfl, em 25 rfl, em 26 rfl, em 27 rfl, em 28 rfl, em 29 rfl]
  exact h
theorem MeR.ex {L Lm : List Nat} {S S' : CST} {Sm Sm' : MST} (h : MeR S Sm) (e : Ex L S S') (hL : (L.all fun k => !meC k) = true) (em : Fm Lm Sm Sm') (hLm : (Lm.all fun k => !meM k) = true) : MeR S' Sm' := by
  refine h.same e.1 (fun k hk => e.2 k ?_) (fun k hk => em k ?_)
  · cases hc : L.contains k with
    | false => rfl
    | true =>
      have := List.all_eq_true.mp hL k (by simpa using hc)
      rw [hk] at this
      cases this
  · cases hc : Lm.contains k with
    | false => rfl
    | true =>
      have := List.all_eq_true.mp hLm k (by simpa using hc)
      rw [hk] at this
      cases this
theorem CdX.same {S S' : CST} {Sm Sm' : MST} {y j c N h n : Nat} {P : Nat → T5} {as : Nat → Bool} {val : Nat → Int32} {st : Nat → Nat} (hx : CdX S Sm y j c N h n P as val st) (e : ∀ k : Nat, 320 ≤ k → cv S' k c = cv S k c) (e3 : Sm' 3 = Sm 3) (e7 : Sm' 7 = Sm 7) (e23 : Sm' 23 (12 * y + j) = Sm 23 (12 * y + j)) (e24 : ∀ t : Nat, 60 * (12 * y + j) ≤ t → t < 60 * (12 * y + j) + 60 → Sm' 24 t = Sm 24 t) (ep : ∀ k t : Nat, 25 ≤ k → k ≤ 29 → 640 * (12 * y + j) ≤ t → t < 640 * (12 * y + j) + 640 → Sm' k t = Sm k t) : CdX S' Sm' y j c N h n P as val st := by
  obtain ⟨h1, h2, h3, h4, h5, h6, ⟨c1, c2, c3, c4, c5, c6⟩, m1, m2, m3⟩ := hx
  refine ⟨by rw [e3]; exact h1, h2, h3, h4, h5, h6, ⟨by rw [e 320 (by decide)]; exact c1, by rw [e 321 (by decide)]; exact c2, by rw [e 339 (by decide)]; exact c3, by rw [e 349 (by decide)]; exact c4, fun p hp => by rw [e 330 (by decide)]; exact c5 p hp, fun i hi hl => ?_⟩, by rw [e23]; exact m1, fun p hp => ?_, fun i hi hl => ?_⟩
  · rw [e 340 (by decide)]
    exact c6 i hi (by rw [← e7]; exact hl)
  · rw [ep 25 _ (by decide) (by decide) (by omega) (by omega), ep 26 _ (by decide) (by decide) (by omega) (by omega), ep 27 _ (by decide) (by decide) (by omega) (by omega), ep 28 _ (by decide) (by decide) (by omega) (by omega), ep 29 _ (by decide) (by decide) (by omega) (by omega)]
    exact m2 p hp
  · rw [e24 _ (by omega) (by omega)]
    exact m3 i hi (by rw [← e7]; exact hl)
/-! in the midst of a run -/
/-- an ASSUMED thing is as it was taken to be -/
def OkT (Sm : MST) (f : Nat) (val : Nat → Int32) (s : Nat) : Prop := if s < 3 then Sm 42 (15 * f + s) = val s else Sm 12 (s - 3) = val s
/-- its GUARD comes next, GUARDS alone ahead of it -/
def PeT (val : Nat → Int32) (N : Nat) (P : Nat → T5) (p s : Nat) : Prop := ∃ p' : Nat, p ≤ p' ∧ p' < N ∧ (∀ r : Nat, p ≤ r → r ≤ p' → (P r).1 = 17 ∨ (P r).1 = 18) ∧ ∃ i : Int32, P p' = gdT val i s
/-- where the call on top stands -/
def MoT (S : CST) (Sm : MST) (f m : Nat) : Prop :=
  (Sm 40 f = -1 ∧ ∃ i c : Nat, i ≤ 60 ∧ Sm 39 f = nI i ∧ cv S 221 f 0 = nI c ∧ cv S 249 m 0 = nI c ∧ c < cnC S ∧ cv S 222 f 0 = nI (posN (lvC S m) i)) ∨
  (∃ (j c N h n : Nat) (P : Nat → T5) (as : Nat → Bool) (val : Nat → Int32) (st : Nat → Nat) (p q : Nat), Sm 40 f = nI (12 * m + j) ∧ j < 12 ∧ cv S 221 f 0 = nI c ∧ c < cnC S ∧ CdX S Sm m j c N h n P as val st ∧ Sm 39 f = nI p ∧ p ≤ N ∧ cv S 222 f 0 = nI q ∧
    ((q = p ∧ ∀ s : Nat, s < 11 → as s = true → OkT Sm f val s ∨ PeT val N P p s) ∨ (p ≤ q ∧ q = h ∧ ∀ s : Nat, s < 11 → as s = true → OkT Sm f val s)))
/-- where a call stands that waits, and for what register -/
def MoW (S : CST) (Sm : MST) (f m d : Nat) : Prop :=
  (Sm 40 f = -1 ∧ ∃ i c y ax dd : Nat, i < 60 ∧ Sm 39 f = nI i ∧ cv S 221 f 0 = nI c ∧ cv S 249 m 0 = nI c ∧ c < cnC S ∧ cv S 222 f 0 = nI (posN (lvC S m) i + 1) ∧ lvC S m i = true ∧ Sm 5 (60 * m + i) = nI y ∧ y < 8 ∧ Sm 1 y = nI ax ∧ Sm 41 f = nI dd ∧ ax ≤ dd ∧ d = 7 + dd - ax) ∨
  (∃ (j c N h n : Nat) (P : Nat → T5) (as : Nat → Bool) (val : Nat → Int32) (st : Nat → Nat) (p : Nat), Sm 40 f = nI (12 * m + j) ∧ j < 12 ∧ cv S 221 f 0 = nI c ∧ c < cnC S ∧ CdX S Sm m j c N h n P as val st ∧ Sm 39 f = nI p ∧ p < N ∧ h ≤ p ∧ cv S 222 f 0 = nI (p + 1) ∧ (P p).1 = 10 ∧ (P p).2.1 = nI d ∧ ∀ s : Nat, s < 3 → as s = true → OkT Sm f val s)
/-- its METHOD and its registers -/
def FrC (S : CST) (Sm : MST) (f m : Nat) : Prop := m < cnP S ∧ cv S 220 f 0 = nI m ∧ Sm 38 f = nI m ∧ ∀ t : Nat, t < 15 → cv S 230 f t = Sm 42 (15 * f + t)
def RnR (S : CST) (Sm : MST) (F s : Nat) : Prop := MeR S Sm ∧ DaR S Sm ∧ TaR S Sm ∧ cv S 126 0 0 = nI F ∧ cv S 127 0 0 = 4 ∧ cv S 128 0 0 = -1 ∧ cv S 201 0 0 = nI s ∧ Sm 44 0 = nI s ∧ s ≤ 1500 ∧ (∃ m : Nat, FrC S Sm (F - 1) m ∧ MoT S Sm (F - 1) m) ∧ ∀ f : Nat, f + 1 < F → ∃ m d : Nat, d < 15 ∧ FrC S Sm f m ∧ MoW S Sm f m d ∧ cv S 223 (f + 1) 0 = nI d
/-- a run is over -/
def EnR (S : CST) (Sm : MST) : Prop := FR1 S Sm ∧ ((Sm 43 0 = 1 ∧ cv S 127 0 0 = 1) ∨ (Sm 43 0 = 2 ∧ cv S 127 0 0 = 0) ∨ (Sm 43 0 = 3 ∧ cv S 127 0 0 = 3))
/-- a call that waits stays as it is -/
theorem FrC.keep {S S' : CST} {Sm Sm' : MST} {f m : Nat} (h : FrC S Sm f m) (p1 : cnP S' = cnP S) (e220 : cv S' 220 f = cv S 220 f) (e230 : cv S' 230 f = cv S 230 f) (e38 : Sm' 38 f = Sm 38 f) (e42 : ∀ t : Nat, t < 15 → Sm' 42 (15 * f + t) = Sm 42 (15 * f + t)) : FrC S' Sm' f m := by
  obtain ⟨a, b, c, d⟩ := h
  exact ⟨by rw [p1]; exact a, by rw [e220]; exact b, by rw [e38]; exact c, fun t ht => by rw [e230, e42 t ht]; exact d t ht⟩
theorem MoW.keep {S S' : CST} {Sm Sm' : MST} {f m d : Nat} (h : MoW S Sm f m d) (hm : m < 8) (p2 : cnC S ≤ cnC S') (e221 : cv S' 221 f = cv S 221 f) (e222 : cv S' 222 f = cv S 222 f) (e249 : cv S' 249 = cv S 249) (e250 : cv S' 250 = cv S 250) (e270 : cv S' 270 = cv S 270) (e39 : Sm' 39 f = Sm 39 f) (e40 : Sm' 40 f = Sm 40 f) (e41 : Sm' 41 f = Sm 41 f) (e5 : Sm' 5 = Sm 5) (e1 : Sm' 1 = Sm 1) (e42 : ∀ t : Nat, t < 15 → Sm' 42 (15 * f + t) = Sm 42 (15 * f + t))
    (hcd : ∀ (j c N h n : Nat) (P : Nat → T5) (as : Nat → Bool) (val : Nat → Int32) (st : Nat → Nat), j < 12 → Sm 40 f = nI (12 * m + j) → c < cnC S → CdX S Sm m j c N h n P as val st → CdX S' Sm' m j c N h n P as val st) : MoW S' Sm' f m d := by
  have elv : lvC S' m = lvC S m := funext fun i => by unfold lvC; rw [e250, e270]
  rcases h with ⟨a, i, c, y, ax, dd, b⟩ | ⟨j, c, N, h, n, P, as, val, st, p, a1, a2, a3, a4, a5, a6, a7, a8, a9, a10, a11, a12⟩
  · refine Or.inl ⟨by rw [e40]; exact a, i, c, y, ax, dd, ?_⟩
    rw [e39, e221, e249, e222, e5, e1, e41, elv]
    obtain ⟨b1, b2, b3, b4, b5, b6⟩ := b
    exact ⟨b1, b2, b3, b4, by omega, b6⟩
  · refine Or.inr ⟨j, c, N, h, n, P, as, val, st, p, by rw [e40]; exact a1, a2, by rw [e221]; exact a3, by omega, hcd j c N h n P as val st a2 a1 a4 a5, by rw [e39]; exact a6, a7, a8, by rw [e222]; exact a9, a10, a11, fun s hs has => ?_⟩
    have := a12 s hs has
    unfold OkT at this ⊢
    rw [if_pos hs] at this ⊢
    rw [e42 s (by omega)]; exact this
/-- the call on top goes on, all others stay -/
theorem RnR.top {S S1 : CST} {Sm Sm1 : MST} {f s s1 : Nat} (h : RnR S Sm (f + 1) s) (hM8 : cnP S ≤ 8) (e : Ex [40, 50, 60, 201, 222, 230] S S1) (o222 : ∀ g : Nat, g ≠ f → cv S1 222 g = cv S 222 g) (o230 : ∀ g : Nat, g ≠ f → cv S1 230 g = cv S 230 g) (em : Fm [12, 13, 14, 39, 41, 42, 44] Sm Sm1) (o39 : ∀ g : Nat, g ≠ f → Sm1 39 g = Sm 39 g ∧ Sm1 41 g = Sm 41 g) (o42 : ∀ g t : Nat, g ≠ f → t < 15 → Sm1 42 (15 * g + t) = Sm 42 (15 * g + t))
    (hd : DaR S1 Sm1) (hr : ∀ t : Nat, t < 15 → cv S1 230 f t = Sm1 42 (15 * f + t)) (hm : ∀ m : Nat, FrC S Sm f m → MoT S Sm f m → MoT S1 Sm1 f m) (hs : cv S1 201 0 0 = nI s1) (hs2 : Sm1 44 0 = nI s1) (hs3 : s1 ≤ 1500) : RnR S1 Sm1 (f + 1) s1 := by
  obtain ⟨h1, h2, h3, h4, h5, h6, h7, h8, h9, ⟨m, hF, hT⟩, hW⟩ := h
  have p1 : cnP S1 = cnP S := congrArg Prod.fst e.1
  have p2 : cnC S1 = cnC S := congrArg Prod.snd e.1
  rw [show f + 1 - 1 = f by omega] at hF hT
  refine ⟨h1.ex e rfl em rfl, hd, ?_, by rw [e.2 126 rfl]; exact h4, by rw [e.2 127 rfl]; exact h5, by rw [e.2 128 rfl]; exact h6, hs, hs2, hs3, ⟨m, ?_⟩, fun g hg => ?_⟩
  · unfold TaR
    rw [e.2 200 rfl, e.2 202 rfl, e.2 203 rfl, e.2 204 rfl, e.2 205 rfl, e.2 210 rfl, em 48 rfl, em 45 rfl, em 46 rfl, em 47 rfl, em 49 rfl, em 50 rfl]
    exact h3
  · rw [show f + 1 - 1 = f by omega]
    exact ⟨⟨by rw [p1]; exact hF.1, by rw [e.2 220 rfl]; exact hF.2.1, by rw [em 38 rfl]; exact hF.2.2.1, hr⟩, hm m hF hT⟩
  · obtain ⟨m', d, w1, w2, w3, w4⟩ := hW g hg
    have hm' := w2.1
    refine ⟨m', d, w1, w2.keep p1 (by rw [e.2 220 rfl]) (o230 g (by omega)) (by rw [em 38 rfl]) (fun t ht => o42 g t (by omega) ht), w3.keep (by omega) (by omega) (by rw [e.2 221 rfl]) (o222 g (by omega)) (e.2 249 rfl) (e.2 250 rfl) (e.2 270 rfl) (o39 g (by omega)).1 (by rw [em 40 rfl]) (o39 g (by omega)).2 (em 5 rfl) (em 1 rfl) (fun t ht => o42 g t (by omega) ht) (fun j c N h n P as val st _ _ _ hx => hx.same (fun k hk => ?_) (em 3 rfl) (em 7 rfl) (by rw [em 23 rfl]) (fun t _ _ => by rw [em 24 rfl]) (fun k t a b _ _ => ?_)), by rw [e.2 223 rfl]; exact w4⟩
    · rw [e.2 k (by
        cases hc : [40, 50, 60, 201, 222, 230].contains k with
        | false => rfl
        | true => simp at hc; omega)]
    · rw [em k (by
        cases hc : [12, 13, 14, 39, 41, 42, 44].contains k with
        | false => rfl
        | true => simp at hc; omega)]
