/-! THE CLASS, exactly: the whole of looking over -/
def s00 : LK := (fun _ => -1, fun _ => 0)
def sI0 : LK := (upd (fun _ => -1) 0 0, upd (fun _ => 0) 0 1)
theorem sI0_gd {n : Nat} (h : 0 < n) : GdS n sI0 := by
  refine ⟨fun i _ => ?_, fun i hi => ?_⟩
  · show (upd (fun _ => -1) 0 0 i = -1 ∨ ∃ d : Nat, d ≤ 8 ∧ upd (fun _ => -1) 0 0 i = nI d) ∧ (¬ upd (fun _ => 0) 0 1 i = 0 → ¬ upd (fun _ => -1) 0 0 i = -1)
    by_cases w : i = 0
    · rw [w, upd_s, upd_s]; exact ⟨Or.inr ⟨0, by omega, rfl⟩, fun _ => by decide⟩
    · rw [upd_n _ _ w, upd_n _ _ w]; exact ⟨Or.inl rfl, fun q => absurd rfl q⟩
  · show upd (fun _ => -1) 0 0 i = -1 ∧ upd (fun _ => 0) 0 1 i = 0
    rw [upd_n _ _ (by omega), upd_n _ _ (by omega)]; exact ⟨rfl, rfl⟩
theorem nuS_n {n : Nat} {s : LK} : nuS n s ≤ n := by
  refine Nat.le_trans (sN_const (c := 1) n (fun i _ => ?_)) (by omega)
  show (if s.1 i = -1 then 1 else if s.2 i = 0 then 0 else 1) ≤ 1
  split
  · omega
  · split <;> omega
/-- what looking over comes to: depths and what waits, the fault, its place -/
noncomputable def lkR (M l n : Nat) (ag : Nat → Int32) (op : Nat → Nat) (xs : Nat → Int32) : LK × Int32 × Nat := if n = 0 then (s00, 5, 0) else lpF M l n ag op xs 60 sI0
theorem LkC.ex {S0 : CST} {y : Nat} {S S' : CST} {s : LK} {r : Int32} (h : LkC S0 y S s) (e : S' = cs S 103 0 (fun _ => r)) : LkC S0 y S' s := by
  obtain ⟨h1, h2, h3, h4⟩ := h
  have l : ∀ k i : Nat, k ≠ 103 → cv S' k i = cv S k i := fun k i hk => by rw [e]; exact cs_n S _ (fun w => hk w.1)
  refine ⟨by rw [e]; exact Ex.cs (by decide) h1, fun i hi => ?_, fun j hj => ?_, fun j hj => ?_⟩
  · rw [l 270 i (by decide)]; exact h2 i hi
  · rw [l 270 y (by decide)]; exact h3 j hj
  · rw [l 110 0 (by decide)]; exact h4 j hj
theorem xp_goOver_61 {S0 : CST} {y n l : Nat} {ag : Nat → Int32} {op : Nat → Nat} {xs : Nat → Int32} {R : LK × Int32 × Nat} {K1 K2 : CST → Nat → Prop} {K3 : CST → Int32 → Prop} {Post : CST → Int32 → Prop} (hB : BK S0) (hy : y < cnP S0) (hn : cv S0 247 y 0 = nI n) (hn60 : n ≤ 60) (hl : cv S0 242 y 0 = nI l) (hl6 : l ≤ 6)
    (hops : ∀ i : Nat, i < n → op i < 20 ∧ cv S0 250 y i = nI (op i) ∧ cv S0 260 y i = xs i) (hag : ∀ z : Nat, z < cnP S0 → cv S0 241 z 0 = ag z ∧ ∃ a : Nat, a ≤ 3 ∧ ag z = nI a)
    (hdone : R.2.1 = 0 → ∀ S' : CST, LkC S0 y S' R.1 → GdS n R.1 → cv S' 103 0 0 = 0 → K1 S' y ∧ K2 S' y) (hfault : ¬ R.2.1 = 0 → ∀ S' : CST, LkC S0 y S' R.1 → cv S' 103 0 0 = R.2.1 → K3 S' (nI R.2.2)) :
    ∀ (k g : Nat) (S : CST) (s : LK), g + k = 60 → LkC S0 y S s → GdS n s → nuS n s ≤ k → cv S 103 0 0 = 0 → lpF (cnP S0) l n ag op xs k s = R → wl_X6_goOver_61 K1 K2 K3 Post (k + 1) S y (nI g) := by
  intro k
  induction k with
  | zero =>
    intro g S s hg hs hgd hnu h103 hR
    obtain rfl : g = 60 := by omega
    unfold wl_X6_goOver_61
    rw [show lpF (cnP S0) l n ag op xs 0 s = (s, 0, 60) from rfl] at hR
    subst hR
    exact ⟨fun _ => (hdone rfl S hs hgd h103).1, fun c => absurd (show (60 : Int32) ≤ nI 60 by decide) c⟩
  | succ k ih =>
    intro g S s hg hs hgd hnu h103 hR
    unfold wl_X6_goOver_61
    rw [nI_1]
    refine ⟨fun c => absurd c (nI_ge (b := 60) (by omega) (by omega)), fun _ => xp_X6_leastWaiting hs.2.2.2 (fun c => ⟨fun q => absurd rfl q, fun _ => ?_⟩) (fun c => ⟨fun _ => ?_, fun q => absurd q (nI_neg1 (by omega))⟩)⟩
    · have e : lpF (cnP S0) l n ag op xs (k + 1) s = (s, 0, 60) := if_neg c
      rw [e] at hR
      subst hR
      exact (hdone rfl S hs hgd h103).2
    · have hin := lw_n hgd c
      have hw := (lw_lt c).1
      have hlive := (hgd.1 _ hin).2 hw
      have e : lpF (cnP S0) l n ag op xs (k + 1) s = _ := if_pos c
      rw [e] at hR
      have hnu2 := pop_nu hgd hin hw
      have hgd2 := pop_gd (i := lw s.2) hgd
      generalize hi : lw s.2 = i at *
      refine ⟨vp_in_nI c (by omega), fun S35 e35 => ?_⟩
      rw [nI_clamp (by omega), vn_0] at e35
      have hs35 : LkC S0 y S35 (s.1, upd s.2 i 0) := by
        obtain ⟨a1, a2, a3, a4⟩ := hs
        have l35 : ∀ k i : Nat, k ≠ 110 → cv S35 k i = cv S k i := fun k i hk => by rw [e35]; exact cs_n S _ (fun w => hk w.1)
        refine ⟨by rw [e35]; exact Ex.cs (by decide) a1, fun i' hi' => by rw [l35 270 i' (by decide)]; exact a2 i' hi', fun j hj => by rw [l35 270 y (by decide)]; exact a3 j hj, fun j hj => ?_⟩
        show cv S35 110 0 j = upd s.2 i 0 j
        rw [e35, cs_s]
        by_cases w : j = i
        · rw [w, upd_s, upd_s]
        · rw [upd_n _ _ w, upd_n _ _ w]; exact a4 j hj
      have hE := hs35.1
      have p1 : cnP S35 = cnP S0 := congrArg Prod.fst hE.1
      obtain ⟨o20, oe, xe⟩ := hops i hin
      have hx : cv S35 260 y i = xs i := by rw [hE.2 260 rfl]; exact xe
      refine xp_X6_faultAt (S0 := S0) (n := n) (l := l) (o := op i) (ag := ag) (s := (s.1, upd s.2 i 0)) (hB.ex hE rfl rfl) (by rw [p1]; exact hy) (by rw [hE.2 247 rfl]; exact hn) hn60 (by rw [hE.2 242 rfl]; exact hl) hl6 hin (by rw [hE.2 250 rfl]; exact oe) o20 (by rw [p1, hE.2 241 rfl]; exact hag) hs35 hgd2 hlive (fun S37 hs37 S39 e39 => ?_)
      rw [p1, hx] at hs37 e39
      have hs39 := LkC.ex hs37 e39
      have v39 : cv S39 103 0 0 = (faF (cnP S0) l n ag (op i) (xs i) i (s.1, upd s.2 i 0)).2 := by rw [e39, cs_s]
      have hle := faF_le (M := cnP S0) (l := l) (ag := ag) (o := op i) (i := i) (x := xs i) hn60 hgd2
      refine ⟨fun q => ?_, fun q => ?_⟩
      · rw [v39] at q
        rw [if_pos q] at hR
        exact ih (g + 1) S39 _ (by omega) hs39 hle.1 (by have := nuS_le hle; omega) (v39.trans q) hR
      · rw [v39] at q
        rw [if_neg q] at hR
        subst hR
        exact hfault q S39 hs39 v39
theorem MxR.congr {n b : Nat} {D D' : Nat → Int32} (h : MxR n D b) (e : ∀ i : Nat, i < n → D' i = D i) : MxR n D' b :=
  ⟨h.1, fun i d hi hd q => h.2.1 i d hi hd (by rw [← e i hi]; exact q), h.2.2.elim Or.inl (fun ⟨i, hi, q⟩ => Or.inr ⟨i, hi, by rw [e i hi]; exact q⟩)⟩
theorem xp_plain {S : CST} {y : Nat} {Post : CST → Nat → Prop} (hy : y < cnP S) (hw : Wid S) (hl : ∃ n : Nat, cv S 247 y 0 = nI n ∧ n ≤ 60) (hc : cnC S < 104) (h : ∀ (S' : CST) (r : Nat), Fc [72, 80, 90] S S' → MkJ (fun _ => False) S S' r 0 → Post S' r) : wp_X6_plainCode S y Post := by
  have h1 := sp_X6_plainCode (T := S.2) rfl hy hw hl hc (fun S' r m => m)
  exact an_X6_plainCode h1 h1 (fun S' r f m _ => h S' r f m)
/-- what looking METHOD y over leaves: R what it comes to -/
def GoC (S : CST) (y n : Nat) (R : LK × Int32 × Nat) (S' : CST) (r : Int32) : Prop :=
  (∀ j : Nat, j < 60 → cv S' 270 y j = R.1.1 j) ∧ (∀ i : Nat, i ≠ y → i < cnP S → cv S' 270 i = cv S 270 i ∧ cv S' 248 i = cv S 248 i) ∧ cv S' 103 0 0 = R.2.1 ∧
  ((R.2.1 = 0 ∧ GdS n R.1 ∧ ∃ b : Nat, MxR n R.1.1 b ∧ cv S' 248 y 0 = nI b ∧ r = nI b) ∨ (¬ R.2.1 = 0 ∧ cv S' 248 y = cv S 248 y ∧ r = -100 - nI R.2.2))
theorem xp_go_end {S0 S : CST} {y n : Nat} {s : LK} {Post : CST → Int32 → Prop} (hJ : J S) (hy : y < cnP S) (h248 : cv S 248 y 0 = -1) (hn : cv S 247 y 0 = nI n) (hn60 : n ≤ 60) (hs : LkC S0 y S s) (hgd : GdS n s)
    (hp : ∀ (S' : CST) (b : Nat), MxR n s.1 b → Fc [72, 80, 90, 248, 249] S S' → cv S' 248 y 0 = nI b → (∀ i : Nat, i ≠ y → i < cnP S → cv S' 248 i = cv S 248 i) → Post S' (nI b)) :
    wp_X6_greatestDepth S y (fun r6 => cin S 24 y ∧ (∀ S8 : CST, S8 = cs S 248 y (fun _ => r6) → (cin S8 24 y ∧ (wp_X6_plainCode S8 y (fun S12 r12 => cin S12 24 y ∧ r12 < 2147483648 ∧ (∀ S14 : CST, S14 = cs S12 249 y (fun _ => (nI r12)) → (cin S14 24 y ∧ (Post S14 (cv S14 248 y 0))))))))) := by
  refine xp_X6_greatestDepth hy hn hn60 (fun i hi => by rw [hs.2.2.1 i (by omega)]; exact (hgd.1 i hi).1) (fun b hb => ⟨cin_24 rfl hy, fun S8 e8 => ?_⟩)
  have hb' : MxR n s.1 b := hb.congr (fun i hi => (hs.2.2.1 i (by omega)).symm)
  have hT8 : S8.2 = S.2 := by rw [e8]; rfl
  have q1 : cnP S8 = cnP S := congrArg Prod.fst hT8
  have q2 : cnC S8 = cnC S := congrArg Prod.snd hT8
  have hroom : cnC S < 104 := by
    obtain ⟨M, m1, m2, -⟩ := hJ.2.2.2.2.2.1 y hy
    refine hJ.room hy ?_
    rw [show Rt S y = 0 by unfold Rt; rw [h248]; rfl, m1, nI_clamp (by omega)]
    omega
  have l8 : ∀ k : Nat, k ≠ 248 → cv S8 k = cv S k := fun k hk => by rw [e8]; funext i; exact cs_n S _ (fun w => hk w.1)
  have hw8 : Wid S8 := by
    unfold Wid
    rw [q1, q2, l8 20 (by decide), l8 220 (by decide), l8 221 (by decide), l8 249 (by decide), l8 281 (by decide)]
    exact hJ.2.2.1
  refine ⟨cin_24 hT8 hy, xp_plain (by rw [q1]; exact hy) hw8 ?_ ?_ (fun S12 r12 hf hm => ?_)⟩
  · rw [l8 247 (by decide)]; exact ⟨n, hn, hn60⟩
  · rw [q2]; exact hroom
  · have p1 : cnP S12 = cnP S := by rw [show cnP S12 = cnP S8 by show S12.2.1 = _; rw [hm.1]]; exact q1
    have hr : r12 = cnC S := hm.2.1.trans q2
    have hT12 : S12.2 = (cnP S, S12.2.2) := by rw [← p1]
    refine ⟨cin_24 hT12 hy, by omega, fun S14 e14 => ?_⟩
    have hT14 : S14.2 = (cnP S, S12.2.2) := by rw [e14]; exact hT12
    have hF : Fc [72, 80, 90, 248, 249] S S14 := Fc.put e14 rfl (Fc.step hf rfl (Fc.put e8 rfl Fc.rf))
    have v : ∀ i : Nat, i < cnP S → cv S14 248 i = cv S8 248 i := fun i hi => by
      rw [e14, cs_n _ _ (fun w => absurd w.1 (by decide))]
      exact hf.2.2 248 i rfl (fun _ _ => by rw [q1]; exact hi) (fun q => absurd q (by decide))
    have vb : cv S14 248 y 0 = nI b := by rw [v y hy, e8, cs_s]
    refine ⟨cin_24 hT14 hy, ?_⟩
    rw [vb]
    exact hp S14 b hb' hF vb (fun i hi hiP => by rw [v i hiP, e8, cs_i hi])
theorem xp_forget {S : CST} {y : Nat} {Post : CST → Prop} (hy : y < cnP S) (h : ∀ S' : CST, Ex [270] S S' → (∀ i : Nat, i ≠ y → cv S' 270 i = cv S 270 i) → (∀ j : Nat, j < 60 → cv S' 270 y j = -1) → Post S') : wp_X8_forgetDepths S y Post := by
  have key : ∀ (k j : Nat) (S1 : CST), j + k = 60 → Ex [270] S S1 → (∀ i : Nat, i ≠ y → cv S1 270 i = cv S 270 i) → (∀ t : Nat, t < j → cv S1 270 y t = -1) → wl_J7_fill_53178_k27_5 (fun S_20 => Post S_20) Post (k + 1) S1 y (-1) (nI j) 60 := by
    intro k
    induction k with
    | zero =>
      intro j S1 hj hE ho hd
      obtain rfl : j = 60 := by omega
      unfold wl_J7_fill_53178_k27_5
      exact ⟨fun _ => h S1 hE ho hd, fun c => absurd (show (60 : Int32) ≤ nI 60 by decide) c⟩
    | succ k ih =>
      intro j S1 hj hE ho hd
      unfold wl_J7_fill_53178_k27_5
      rw [nI_1, nI_clamp (n := j) (by omega)]
      refine ⟨fun c => absurd c (nI_ge (b := 60) (by omega) (by omega)), fun _ => ⟨cin_27 hE.1 hy, vp_in_nI (by omega) (by omega), fun S4 e4 => ih (j + 1) S4 (by omega) (by rw [e4]; exact Ex.cs (by decide) hE) (fun i hi => by rw [e4, cs_i hi]; exact ho i hi) (fun t ht => ?_)⟩⟩
      rw [e4, cs_s]
      by_cases w : t = j
      · rw [w, upd_s]
      · rw [upd_n _ _ w]; exact hd t (by omega)
  exact ⟨cin_24 rfl hy, cin_27 rfl hy, 61, key 60 0 S (by omega) Ex.rf (fun _ _ => rfl) (fun t ht => absurd ht (by omega))⟩
theorem xp_clearW {S0 : CST} {y : Nat} {K : CST → Nat → Prop} {Post : CST → Int32 → Prop} (h : ∀ S' : CST, LkC S0 y S' s00 → K S' y) : ∀ (k j : Nat) (S : CST), j + k = 60 → Ex [270, 110, 103] S0 S → (∀ i : Nat, i ≠ y → cv S 270 i = cv S0 270 i) → (∀ t : Nat, t < 60 → cv S 270 y t = -1) → (∀ t : Nat, t < j → cv S 110 0 t = 0) → wl_X6_goOver_6 K Post (k + 1) S y (nI j) := by
  intro k
  induction k with
  | zero =>
    intro j S hj hE ho hd hw
    obtain rfl : j = 60 := by omega
    unfold wl_X6_goOver_6
    exact ⟨fun _ => h S ⟨hE, ho, hd, hw⟩, fun c => absurd (show (60 : Int32) ≤ nI 60 by decide) c⟩
  | succ k ih =>
    intro j S hj hE ho hd hw
    unfold wl_X6_goOver_6
    rw [nI_1, nI_clamp (n := j) (by omega), vn_0]
    refine ⟨fun c => absurd c (nI_ge (b := 60) (by omega) (by omega)), fun _ => ⟨vp_in_nI (by omega) (by omega), fun S4 e4 => ih (j + 1) S4 (by omega) (by rw [e4]; exact Ex.cs (by decide) hE) (fun i hi => by rw [e4, cs_n _ _ (fun w => absurd w.1 (by decide))]; exact ho i hi) (fun t ht => by rw [e4, cs_n _ _ (fun w => absurd w.1 (by decide))]; exact hd t ht) (fun t ht => ?_)⟩⟩
    rw [e4, cs_s]
    by_cases w : t = j
    · rw [w, upd_s]
    · rw [upd_n _ _ w]; exact hw t (by omega)
theorem xp_X6_goOver {S : CST} {y n l : Nat} {ag : Nat → Int32} {op : Nat → Nat} {xs : Nat → Int32} {Post : CST → Int32 → Prop} (hJ : J S) (hB : BK S) (hy : y < cnP S) (h248 : cv S 248 y 0 = -1) (hn : cv S 247 y 0 = nI n) (hn60 : n ≤ 60) (hl : cv S 242 y 0 = nI l) (hl6 : l ≤ 6)
    (hops : ∀ i : Nat, i < n → op i < 20 ∧ cv S 250 y i = nI (op i) ∧ cv S 260 y i = xs i) (hag : ∀ z : Nat, z < cnP S → cv S 241 z 0 = ag z ∧ ∃ a : Nat, a ≤ 3 ∧ ag z = nI a)
    (h : ∀ (S' : CST) (r : Int32), GoC S y n (lkR (cnP S) l n ag op xs) S' r → Post S' r) : wp_X6_goOver S y Post := by
  -- a fault
  have fin : ∀ (R : LK × Int32 × Nat), R = lkR (cnP S) l n ag op xs → ¬ R.2.1 = 0 → ∀ S' : CST, LkC S y S' R.1 → cv S' 103 0 0 = R.2.1 → Post S' (-100 - nI R.2.2) := fun R hR hf S' hs h103 => by
    refine h S' _ ?_
    rw [← hR]
    exact ⟨hs.2.2.1, fun i hi hiP => ⟨hs.2.1 i hi, congrFun (hs.1.2 248 rfl) i⟩, h103, Or.inr ⟨hf, congrFun (hs.1.2 248 rfl) y, rfl⟩⟩
  have ed : ∀ (R : LK × Int32 × Nat), R = lkR (cnP S) l n ag op xs → R.2.1 = 0 → ∀ S' : CST, LkC S y S' R.1 → GdS n R.1 → cv S' 103 0 0 = 0 → wp_X6_greatestDepth S' y (fun r6 => cin S' 24 y ∧ (∀ S8 : CST, S8 = cs S' 248 y (fun _ => r6) → (cin S8 24 y ∧ (wp_X6_plainCode S8 y (fun S12 r12 => cin S12 24 y ∧ r12 < 2147483648 ∧ (∀ S14 : CST, S14 = cs S12 249 y (fun _ => (nI r12)) → (cin S14 24 y ∧ (Post S14 (cv S14 248 y 0))))))))) := fun R hR hz S' hs hgd h103 => by
    have p1 : cnP S' = cnP S := congrArg Prod.fst hs.1.1
    have hF : ∀ {S2 : CST}, Fc [72, 80, 90, 248, 249] S' S2 → ∀ k i : Nat, ([72, 80, 90, 248, 249].contains k) = false → k < 320 → i < cnP S → cv S2 k i = cv S' k i := fun f k i a b c => f.2.2 k i a (fun _ _ => by rw [p1]; exact c) (fun q => absurd b (by omega))
    refine xp_go_end (n := n) (hJ.ex hs.1 rfl) (by rw [p1]; exact hy) (by rw [hs.1.2 248 rfl]; exact h248) (by rw [hs.1.2 247 rfl]; exact hn) hn60 hs hgd (fun S2 b hb f v vo => h S2 _ ?_)
    rw [← hR]
    refine ⟨fun j hj => by rw [hF f 270 y rfl (by decide) hy]; exact hs.2.2.1 j hj, fun i hi hiP => ⟨by rw [hF f 270 i rfl (by decide) hiP]; exact hs.2.1 i hi, by rw [vo i hi (by rw [p1]; exact hiP)]; exact congrFun (hs.1.2 248 rfl) i⟩, ?_, Or.inl ⟨hz, hgd, b, hb, v, rfl⟩⟩
    rw [f.2.2 103 0 rfl (fun q => absurd q (by decide)) (fun q => absurd q (by decide)), h103, hz]
  unfold wp_X6_goOver
  refine ⟨cin_24 rfl hy, xp_forget hy (fun S43 hE43 ho43 hd43 => ⟨61, xp_clearW (S0 := S) (fun S25 hs25 => ?_) 60 0 S43 (by omega) (Ex.step hE43 (by decide) Ex.rf) ho43 hd43 (fun t ht => absurd ht (by omega))⟩)⟩
  have hT25 : S25.2 = S.2 := hs25.1.1
  refine ⟨cin_24 hT25 hy, ?_⟩
  rw [hs25.1.2 247 rfl, hn]
  refine ⟨fun c S47 e47 => ?_, fun c S49 e49 => ?_⟩
  · have hn0 : 0 < n := by
      rcases Nat.eq_zero_or_pos n with q | q
      · subst q; exact absurd rfl c
      · exact q
    have hs47 := LkC.ex hs25 e47
    have v47 : cv S47 103 0 0 = 0 := by rw [e47, cs_s]
    unfold wj_X6_goOver_41
    rw [v47]
    have p47 : cnP S47 = cnP S := congrArg Prod.fst hs47.1.1
    have hc0 : cmF s00 0 (nI 0) = (sI0, 0) := if_pos rfl
    have hcm : wp_X6_comes S47 y 0 0 (fun S4 r4 => LkC S y S4 sI0) := xp_X6_comes (i := 0) (d := 0) (n := n) (S0 := S) (s := s00) (by rw [p47]; exact hy) (by rw [hs47.1.2 247 rfl]; exact hn) hn60 hn0 hs47 (fun S4 hs4 => by rw [hc0] at hs4; exact hs4)
    refine ⟨fun _ => an_X6_comes hcm hcm (fun S4 r4 f4 hs4 _ => ⟨60 + 1, ?_⟩), fun q => absurd rfl q⟩
    have v4 : cv S4 103 0 0 = 0 := by rw [f4.2.2 103 0 rfl (fun q => absurd q (by decide)) (fun q => absurd q (by decide))]; exact v47
    have hR : lpF (cnP S) l n ag op xs 60 sI0 = lkR (cnP S) l n ag op xs := (if_neg (by omega)).symm
    show wl_X6_goOver_61 _ _ _ _ (60 + 1) S4 y (nI 0)
    refine xp_goOver_61 (R := lkR (cnP S) l n ag op xs) (ag := ag) (op := op) (xs := xs) hB hy hn hn60 hl hl6 hops hag ?_ ?_ 60 0 S4 sI0 (by omega) hs4 (sI0_gd hn0) (Nat.le_trans nuS_n hn60) v4 hR
    · exact fun hz S' hs' hg' h103 => ⟨ed _ rfl hz S' hs' hg' h103, ed _ rfl hz S' hs' hg' h103⟩
    · exact fun hf S' hs' h103 => fin _ rfl hf S' hs' h103
  · obtain rfl : n = 0 := nI_inj (b := 0) c (by omega) (by omega)
    have hs49 := LkC.ex hs25 e49
    have v49 : cv S49 103 0 0 = 5 := by rw [e49, cs_s]
    unfold wj_X6_goOver_41
    rw [v49]
    exact ⟨fun q => absurd q (by decide), fun _ => fin (s00, 5, 0) (if_pos rfl).symm (show ¬ (5 : Int32) = 0 by decide) S49 hs49 v49⟩
