/-! BOTH between calls: look -/
/-- each place that is come to is come to from somewhere -/
def BkS (n : Nat) (op : Nat → Nat) (xs : Nat → Int32) (s : LK) : Prop := ∀ i : Nat, i < n → ¬ i = 0 → ¬ s.1 i = -1 → (∃ j : Nat, j < n ∧ ¬ s.1 j = -1 ∧ (op j = 9 ∨ op j = 10) ∧ xs j = nI i) ∨ (¬ s.1 (i - 1) = -1 ∧ ¬ op (i - 1) = 9 ∧ ¬ op (i - 1) = 12)
theorem cm_live {s : LK} {i : Nat} {d : Int32} {j : Nat} (h : ¬ s.1 j = -1) : ¬ (cmF s i d).1.1 j = -1 := by
  unfold cmF
  by_cases c : s.1 i = -1
  · rw [if_pos c]
    show ¬ upd s.1 i d j = -1
    rw [upd_n _ _ (fun w => h (by rw [w]; exact c))]; exact h
  · rw [if_neg c]; exact h
theorem cm_bk {n i : Nat} {op : Nat → Nat} {xs : Nat → Int32} {s : LK} {d : Int32} (h : BkS n op xs s) (hw : ¬ i = 0 → (∃ j : Nat, j < n ∧ ¬ s.1 j = -1 ∧ (op j = 9 ∨ op j = 10) ∧ xs j = nI i) ∨ (¬ s.1 (i - 1) = -1 ∧ ¬ op (i - 1) = 9 ∧ ¬ op (i - 1) = 12)) : BkS n op xs (cmF s i d).1 := by
  intro k hk k0 kl
  have old : ¬ s.1 k = -1 ∨ k = i := by
    unfold cmF at kl
    by_cases c : s.1 i = -1
    · rw [if_pos c] at kl
      by_cases w : k = i
      · exact Or.inr w
      · have kl2 : ¬ upd s.1 i d k = -1 := kl
        rw [upd_n _ _ w] at kl2; exact Or.inl kl2
    · rw [if_neg c] at kl; exact Or.inl kl
  have up : ((∃ j : Nat, j < n ∧ ¬ s.1 j = -1 ∧ (op j = 9 ∨ op j = 10) ∧ xs j = nI k) ∨ (¬ s.1 (k - 1) = -1 ∧ ¬ op (k - 1) = 9 ∧ ¬ op (k - 1) = 12)) → ((∃ j : Nat, j < n ∧ ¬ (cmF s i d).1.1 j = -1 ∧ (op j = 9 ∨ op j = 10) ∧ xs j = nI k) ∨ (¬ (cmF s i d).1.1 (k - 1) = -1 ∧ ¬ op (k - 1) = 9 ∧ ¬ op (k - 1) = 12)) := fun q => by
    rcases q with ⟨j, a, b, c, e⟩ | ⟨a, b, c⟩
    · exact Or.inl ⟨j, a, cm_live b, c, e⟩
    · exact Or.inr ⟨cm_live a, b, c⟩
  rcases old with w | w
  · exact up (h k hk k0 w)
  · rw [w] at k0 up ⊢
    exact up (hw k0)
theorem nx_bk {n i w : Nat} {op : Nat → Nat} {xs : Nat → Int32} {s : LK} (h : BkS n op xs s) (hl : ¬ s.1 i = -1) : BkS n op xs (nxF n (op i) i w s).1 := by
  unfold nxF
  by_cases a : op i = 9 ∨ op i = 12
  · rw [if_pos a]; exact h
  · rw [if_neg a]
    by_cases b : i + 1 < n
    · rw [if_pos b]
      exact cm_bk h (fun _ => Or.inr ⟨by rw [Nat.add_sub_cancel]; exact hl, by rw [Nat.add_sub_cancel]; exact fun q => a (Or.inl q), by rw [Nat.add_sub_cancel]; exact fun q => a (Or.inr q)⟩)
    · rw [if_neg b]; exact h
theorem jp_bk {n i w : Nat} {op : Nat → Nat} {xs : Nat → Int32} {s : LK} (hn : n ≤ 60) (hi : i < n) (h : BkS n op xs s) (hl : ¬ s.1 i = -1) : BkS n op xs (jpF n (op i) (xs i) i w s).1 := by
  unfold jpF
  by_cases a : op i = 9 ∨ op i = 10
  · rw [if_pos a]
    by_cases b : ∃ y : Nat, y < n ∧ xs i = nI y
    · rw [pite_t b]
      obtain ⟨y, hy, e⟩ := b
      have ey : (xs i).toNatClampNeg = y := by rw [e]; exact nI_clamp (by omega)
      rw [ey]
      have key : BkS n op xs (cmF s y (nI w)).1 := cm_bk h (fun _ => Or.inl ⟨i, hi, hl, a, e⟩)
      by_cases c : (cmF s y (nI w)).2 = 0
      · rw [if_pos c]; exact nx_bk key (cm_live hl)
      · rw [if_neg c]; exact key
    · rw [pite_f b]; exact h
  · rw [if_neg a]; exact nx_bk h hl
theorem fa_bk {M l n i : Nat} {ag : Nat → Int32} {op : Nat → Nat} {xs : Nat → Int32} {s : LK} (hn : n ≤ 60) (hi : i < n) (h : BkS n op xs s) (hl : ¬ s.1 i = -1) : BkS n op xs (faF M l n ag (op i) (xs i) i s).1 := by
  unfold faF
  by_cases c : okX M l (op i) (xs i)
  · rw [pite_t c]
    split
    · exact h
    · split
      · exact h
      · exact jp_bk hn hi h hl
  · rw [pite_f c]; exact h
theorem fa_next {M l n i o : Nat} {ag : Nat → Int32} {x : Int32} {s : LK} (hz : (faF M l n ag o x i s).2 = 0) (h11 : o = 11) : i + 1 < n := by
  unfold faF at hz
  by_cases c : okX M l o x
  · rw [pite_t c] at hz
    split at hz
    · exact absurd (show (1 : Int32) = 0 from hz) (by decide)
    · split at hz
      · exact absurd (show (2 : Int32) = 0 from hz) (by decide)
      · unfold jpF at hz
        rw [if_neg (by omega)] at hz
        unfold nxF at hz
        rw [if_neg (by omega)] at hz
        by_cases b : i + 1 < n
        · exact b
        · rw [if_neg b] at hz
          exact absurd (show (5 : Int32) = 0 from hz) (by decide)
  · rw [pite_f c] at hz
    exact absurd (show (6 : Int32) = 0 from hz) (by decide)
theorem lp_bk {M l n : Nat} {ag : Nat → Int32} {op : Nat → Nat} {xs : Nat → Int32} (hn : n ≤ 60) : ∀ (k : Nat) (s : LK), GdS n s → BkS n op xs s → (∀ i : Nat, i < n → ¬ s.1 i = -1 → s.2 i = 0 → op i = 11 → i + 1 < n) → nuS n s ≤ k → (lpF M l n ag op xs k s).2.1 = 0 → BkS n op xs (lpF M l n ag op xs k s).1 ∧ ∀ i : Nat, i < n → ¬ (lpF M l n ag op xs k s).1.1 i = -1 → op i = 11 → i + 1 < n := by
  intro k
  induction k with
  | zero =>
    intro s hg hb h2 hnu _
    have e : lpF M l n ag op xs 0 s = (s, 0, 60) := rfl
    rw [e]
    exact ⟨hb, fun i hi hl ho => h2 i hi hl (lw_60 (nu_0 hn hg (by omega)) i (by omega)) ho⟩
  | succ k ih =>
    intro s hg hb h2 hnu hz
    by_cases c : lw s.2 < 60
    · have e : lpF M l n ag op xs (k + 1) s = _ := if_pos c
      rw [e] at hz ⊢
      have hin := lw_n hg c
      have hw := (lw_lt c).1
      have hlive := (hg.1 _ hin).2 hw
      have hnu2 := pop_nu hg hin hw
      have hgd2 := pop_gd (i := lw s.2) hg
      clear e
      generalize hi : lw s.2 = i at *
      have hle := faF_le (M := M) (l := l) (ag := ag) (o := op i) (i := i) (x := xs i) hn hgd2
      by_cases q : (faF M l n ag (op i) (xs i) i (s.1, upd s.2 i 0)).2 = 0
      · rw [if_pos q] at hz ⊢
        refine ih _ hle.1 (fa_bk (s := (s.1, upd s.2 i 0)) hn hin hb hlive) (fun t ht tl t2 to => ?_) (by have := nuS_le hle; omega) hz
        by_cases w : t = i
        · rw [w] at to ⊢; exact fa_next q to
        · by_cases tl0 : s.1 t = -1
          · exact absurd t2 (hle.2.2.2 t tl0 tl)
          · have := (hle.2.1 t tl0).2
            rw [t2] at this
            have e2 : (s.1, upd s.2 i 0).2 t = s.2 t := upd_n _ _ w
            exact h2 t ht tl0 (e2.symm.trans this.symm) to
      · rw [if_neg q] at hz
        exact absurd hz q
    · have e : lpF M l n ag op xs (k + 1) s = (s, 0, 60) := if_neg c
      rw [e]
      exact ⟨hb, fun i hi hl ho => h2 i hi hl (lw_60 c i (by omega)) ho⟩
theorem lkR_bk {M l n : Nat} {ag : Nat → Int32} {op : Nat → Nat} {xs : Nat → Int32} (hn : n ≤ 60) (hz : (lkR M l n ag op xs).2.1 = 0) : BkS n op xs (lkR M l n ag op xs).1 ∧ ∀ i : Nat, i < n → ¬ (lkR M l n ag op xs).1.1 i = -1 → op i = 11 → i + 1 < n := by
  by_cases c : n = 0
  · have e : lkR M l n ag op xs = (s00, 5, 0) := if_pos c
    rw [e] at hz
    exact absurd (show (5 : Int32) = 0 from hz) (by decide)
  · have e : lkR M l n ag op xs = lpF M l n ag op xs 60 sI0 := if_neg c
    rw [e] at hz ⊢
    have z1 : ∀ i : Nat, ¬ i = 0 → sI0.1 i = -1 := fun i h0 => by
      show upd (fun _ => -1) 0 0 i = -1
      rw [upd_n _ _ h0]
    refine lp_bk hn 60 sI0 (sI0_gd (by omega)) (fun i hi h0 hl => absurd (z1 i h0) hl) (fun i hi hl h2 ho => ?_) (Nat.le_trans nuS_n hn) hz
    by_cases w : i = 0
    · rw [w] at h2
      exact absurd (show (1 : Int32) = 0 from h2) (by decide)
    · exact absurd (z1 i w) hl
/-- .. in the class: the plain PARTS lie there -/
theorem xq_go_end {S0 S : CST} {y n : Nat} {s : LK} {Post : CST → Int32 → Prop} (hJ : J S) (hy : y < cnP S) (h248 : cv S 248 y 0 = -1) (hn : cv S 247 y 0 = nI n) (hn60 : n ≤ 60) (hs : LkC S0 y S s) (hgd : GdS n s) (hops : ∀ i : Nat, i < n → ∃ o : Nat, o < 20 ∧ cv S 250 y i = nI o ∧ (¬ s.1 i = -1 → o = 11 → i + 1 < n))
    (hp : ∀ (S' : CST) (b : Nat), MxR n s.1 b → Fc [72, 80, 90, 248, 249] S S' → cv S' 248 y 0 = nI b → (∀ i : Nat, i ≠ y → i < cnP S → cv S' 248 i = cv S 248 i ∧ cv S' 249 i = cv S 249 i) → PlR S' y → Post S' (nI b)) :
    wp_X6_greatestDepth S y (fun r6 => cin S 24 y ∧ (∀ S8 : CST, S8 = cs S 248 y (fun _ => r6) → (cin S8 24 y ∧ (wp_X6_plainCode S8 y (fun S12 r12 => cin S12 24 y ∧ r12 < 2147483648 ∧ (∀ S14 : CST, S14 = cs S12 249 y (fun _ => (nI r12)) → (cin S14 24 y ∧ (Post S14 (cv S14 248 y 0))))))))) := by
  refine xp_X6_greatestDepth hy hn hn60 (fun i hi => by rw [hs.2.2.1 i (by omega)]; exact (hgd.1 i hi).1) (fun b hb => ⟨cin_24 rfl hy, fun S8 e8 => ?_⟩)
  have hb' : MxR n s.1 b := hb.congr (fun i hi => (hs.2.2.1 i (by omega)).symm)
  have hT8 : S8.2 = S.2 := by rw [e8]; rfl
  have q1 : cnP S8 = cnP S := congrArg Prod.fst hT8
  have q2 : cnC S8 = cnC S := congrArg Prod.snd hT8
  have hroom : cnC S < 104 := by
    obtain ⟨M, m1, m2, -⟩ := hJ.2.2.2.2.2.1 y hy
    refine hJ.room hy ?_
    rw [show Rt S y = 0 by unfold Rt; rw [h248]; rfl, m1, nI_clamp (by omega)]
    omega
  have l8 : ∀ k : Nat, k ≠ 248 → cv S8 k = cv S k := fun k hk => by rw [e8]; funext i; exact cs_n S _ (fun w => hk w.1)
  have hw8 : Wid S8 := by
    unfold Wid
    rw [q1, q2, l8 20 (by decide), l8 220 (by decide), l8 221 (by decide), l8 249 (by decide), l8 281 (by decide)]
    exact hJ.2.2.1
  refine ⟨cin_24 hT8 hy, xp_X6_plainCode (n := n) (by rw [q1]; exact hy) hw8 (by rw [q2]; exact hroom) (by rw [l8 247 (by decide)]; exact hn) hn60 (fun i hi => ?_) (fun S12 r12 hf p1' pC' hr' hPl => ?_)⟩
  · obtain ⟨o, o1, o2, o3⟩ := hops i hi
    refine ⟨o, o1, by rw [l8 250 (by decide)]; exact o2, fun q => o3 (fun w => q ?_)⟩
    rw [l8 270 (by decide), hs.2.2.1 i (by omega)]; exact w
  · have p1 : cnP S12 = cnP S := p1'.trans q1
    have hT12 : S12.2 = (cnP S, S12.2.2) := by rw [← p1]
    refine ⟨cin_24 hT12 hy, by omega, fun S14 e14 => ?_⟩
    have hT14 : S14.2 = (cnP S, S12.2.2) := by rw [e14]; exact hT12
    have hF : Fc [72, 80, 90, 248, 249] S S14 := Fc.put e14 rfl (Fc.step hf rfl (Fc.put e8 rfl Fc.rf))
    have v : ∀ i : Nat, i < cnP S → cv S14 248 i = cv S8 248 i := fun i hi => by
      rw [e14, cs_n _ _ (fun w => absurd w.1 (by decide))]
      exact hf.2.2 248 i rfl (fun _ _ => by rw [q1]; exact hi) (fun q => absurd q (by decide))
    have vb : cv S14 248 y 0 = nI b := by rw [v y hy, e8, cs_s]
    refine ⟨cin_24 hT14 hy, ?_⟩
    rw [vb]
    refine hp S14 b hb' hF vb (fun i hi hiP => ⟨by rw [v i hiP, e8, cs_i hi], ?_⟩) (fun _ => ⟨r12, n, by rw [e14, cs_s], ?_, ?_, hn60, ?_⟩)
    · rw [e14, cs_i hi, hf.2.2 249 i rfl (fun _ _ => by rw [q1]; exact hiP) (fun q => absurd q (by decide)), l8 249 (by decide)]
    · have : cnC S14 = cnC S12 := by rw [e14]; rfl
      omega
    · rw [e14, cs_c (by decide), hf.2.2 247 y rfl (fun _ _ => by rw [q1]; exact hy) (fun q => absurd q (by decide)), l8 247 (by decide)]; exact hn
    · have el : lvC S14 y = lvC S12 y := funext fun i => by unfold lvC; rw [e14, cs_c (by decide), cs_c (by decide)]
      unfold PlC at hPl ⊢
      rw [el, e14, cs_c (by decide), cs_c (by decide), cs_c (by decide), cs_c (by decide), cs_c (by decide), cs_c (by decide), cs_c (by decide), cs_c (by decide), cs_c (by decide)]
      exact hPl
theorem xq_goOver {S : CST} {y n l : Nat} {ag : Nat → Int32} {op : Nat → Nat} {xs : Nat → Int32} {Post : CST → Int32 → Prop} (hJ : J S) (hB : BK S) (hy : y < cnP S) (h248 : cv S 248 y 0 = -1) (hn : cv S 247 y 0 = nI n) (hn60 : n ≤ 60) (hl : cv S 242 y 0 = nI l) (hl6 : l ≤ 6)
    (hops : ∀ i : Nat, i < n → op i < 20 ∧ cv S 250 y i = nI (op i) ∧ cv S 260 y i = xs i) (hag : ∀ z : Nat, z < cnP S → cv S 241 z 0 = ag z ∧ ∃ a : Nat, a ≤ 3 ∧ ag z = nI a)
    (h : ∀ (S' : CST) (r : Int32), GoC S y n (lkR (cnP S) l n ag op xs) S' r → (∀ i : Nat, i ≠ y → i < cnP S → cv S' 249 i = cv S 249 i) → PlR S' y → Post S' r) : wp_X6_goOver S y Post := by
  have fin : ∀ (R : LK × Int32 × Nat), R = lkR (cnP S) l n ag op xs → ¬ R.2.1 = 0 → ∀ S' : CST, LkC S y S' R.1 → cv S' 103 0 0 = R.2.1 → Post S' (-100 - nI R.2.2) := fun R hR hf S' hs h103 => by
    refine h S' _ ?_ (fun i _ _ => congrFun (hs.1.2 249 rfl) i) (fun q => absurd (by rw [hs.1.2 248 rfl]; exact h248) q)
    rw [← hR]
    exact ⟨hs.2.2.1, fun i hi hiP => ⟨hs.2.1 i hi, congrFun (hs.1.2 248 rfl) i⟩, h103, Or.inr ⟨hf, congrFun (hs.1.2 248 rfl) y, rfl⟩⟩
  have ed : ∀ (R : LK × Int32 × Nat), R = lkR (cnP S) l n ag op xs → R.2.1 = 0 → ∀ S' : CST, LkC S y S' R.1 → GdS n R.1 → cv S' 103 0 0 = 0 → wp_X6_greatestDepth S' y (fun r6 => cin S' 24 y ∧ (∀ S8 : CST, S8 = cs S' 248 y (fun _ => r6) → (cin S8 24 y ∧ (wp_X6_plainCode S8 y (fun S12 r12 => cin S12 24 y ∧ r12 < 2147483648 ∧ (∀ S14 : CST, S14 = cs S12 249 y (fun _ => (nI r12)) → (cin S14 24 y ∧ (Post S14 (cv S14 248 y 0))))))))) := fun R hR hz S' hs hgd h103 => by
    have p1 : cnP S' = cnP S := congrArg Prod.fst hs.1.1
    have hF : ∀ {S2 : CST}, Fc [72, 80, 90, 248, 249] S' S2 → ∀ k i : Nat, ([72, 80, 90, 248, 249].contains k) = false → k < 320 → i < cnP S → cv S2 k i = cv S' k i := fun f k i a b c => f.2.2 k i a (fun _ _ => by rw [p1]; exact c) (fun q => absurd b (by omega))
    have hbk := lkR_bk (M := cnP S) (l := l) (ag := ag) (op := op) (xs := xs) hn60 (by rw [← hR]; exact hz)
    rw [← hR] at hbk
    refine xq_go_end (n := n) (hJ.ex hs.1 rfl) (by rw [p1]; exact hy) (by rw [hs.1.2 248 rfl]; exact h248) (by rw [hs.1.2 247 rfl]; exact hn) hn60 hs hgd (fun i hi => ⟨op i, (hops i hi).1, by rw [hs.1.2 250 rfl]; exact (hops i hi).2.1, hbk.2 i hi⟩) (fun S2 b hb f v vo hPl => h S2 _ ?_ (fun i hi hiP => by rw [(vo i hi (by rw [p1]; exact hiP)).2]; exact congrFun (hs.1.2 249 rfl) i) hPl)
    rw [← hR]
    refine ⟨fun j hj => by rw [hF f 270 y rfl (by decide) hy]; exact hs.2.2.1 j hj, fun i hi hiP => ⟨by rw [hF f 270 i rfl (by decide) hiP]; exact hs.2.1 i hi, by rw [(vo i hi (by rw [p1]; exact hiP)).1]; exact congrFun (hs.1.2 248 rfl) i⟩, ?_, Or.inl ⟨hz, hgd, b, hb, v, rfl⟩⟩
    rw [f.2.2 103 0 rfl (fun q => absurd q (by decide)) (fun q => absurd q (by decide)), h103, hz]
  unfold wp_X6_goOver
  refine ⟨cin_24 rfl hy, xp_forget hy (fun S43 hE43 ho43 hd43 => ⟨61, xp_clearW (S0 := S) (fun S25 hs25 => ?_) 60 0 S43 (by omega) (Ex.step hE43 (by decide) Ex.rf) ho43 hd43 (fun t ht => absurd ht (by omega))⟩)⟩
  have hT25 : S25.2 = S.2 := hs25.1.1
  refine ⟨cin_24 hT25 hy, ?_⟩
  rw [hs25.1.2 247 rfl, hn]
  refine ⟨fun c S47 e47 => ?_, fun c S49 e49 => ?_⟩
  · have hn0 : 0 < n := by
      rcases Nat.eq_zero_or_pos n with q | q
      · subst q; exact absurd rfl c
      · exact q
    have hs47 := LkC.ex hs25 e47
    have v47 : cv S47 103 0 0 = 0 := by rw [e47, cs_s]
    unfold wj_X6_goOver_41
    rw [v47]
    have p47 : cnP S47 = cnP S := congrArg Prod.fst hs47.1.1
    have hc0 : cmF s00 0 (nI 0) = (sI0, 0) := if_pos rfl
    have hcm : wp_X6_comes S47 y 0 0 (fun S4 r4 => LkC S y S4 sI0) := xp_X6_comes (i := 0) (d := 0) (n := n) (S0 := S) (s := s00) (by rw [p47]; exact hy) (by rw [hs47.1.2 247 rfl]; exact hn) hn60 hn0 hs47 (fun S4 hs4 => by rw [hc0] at hs4; exact hs4)
    refine ⟨fun _ => an_X6_comes hcm hcm (fun S4 r4 f4 hs4 _ => ⟨60 + 1, ?_⟩), fun q => absurd rfl q⟩
    have v4 : cv S4 103 0 0 = 0 := by rw [f4.2.2 103 0 rfl (fun q => absurd q (by decide)) (fun q => absurd q (by decide))]; exact v47
    have hR : lpF (cnP S) l n ag op xs 60 sI0 = lkR (cnP S) l n ag op xs := (if_neg (by omega)).symm
    show wl_X6_goOver_61 _ _ _ _ (60 + 1) S4 y (nI 0)
    refine xp_goOver_61 (R := lkR (cnP S) l n ag op xs) (ag := ag) (op := op) (xs := xs) hB hy hn hn60 hl hl6 hops hag ?_ ?_ 60 0 S4 sI0 (by omega) hs4 (sI0_gd hn0) (Nat.le_trans nuS_n hn60) v4 hR
    · exact fun hz S' hs' hg' h103 => ⟨ed _ rfl hz S' hs' hg' h103, ed _ rfl hz S' hs' hg' h103⟩
    · exact fun hf S' hs' h103 => fin _ rfl hf S' hs' h103
  · obtain rfl : n = 0 := nI_inj (b := 0) c (by omega) (by omega)
    have hs49 := LkC.ex hs25 e49
    have v49 : cv S49 103 0 0 = 5 := by rw [e49, cs_s]
    unfold wj_X6_goOver_41
    rw [v49]
    exact ⟨fun q => absurd q (by decide), fun _ => fin (s00, 5, 0) (if_pos rfl).symm (show ¬ (5 : Int32) = 0 by decide) S49 hs49 v49⟩
theorem xq_X11_look {S : CST} {Sm : MST} {a : Int32} {Post : CST → Int32 → Prop} (hJ : J S) (hM : MI Sm (cnP S)) (hR : PR S Sm) (hb : (∀ z : Nat, z < cnP S → ¬ a = nI z) → Post S (-2)) (hs : ∀ y : Nat, y < cnP S → a = nI y → Sm 6 y = 1 → Post S (-3))
    (h : ∀ (y l n : Nat) (S' : CST) (r : Int32), y < cnP S → a = nI y → Sm 6 y = 0 → Sm 2 y = nI l → l ≤ 6 → Sm 3 y = nI n → n ≤ 60 → GoC S y n (lkR (cnP S) l n (Sm 1) (fun i => (Sm 4 (60 * y + i)).toNatClampNeg) (fun i => Sm 5 (60 * y + i))) S' r → (∀ i : Nat, i ≠ y → i < cnP S → cv S' 249 i = cv S 249 i) → PlR S' y → Post S' r) : wp_X11_look S a Post := by
  have hB := BK.of hJ hR
  have hM8 := hJ.1
  unfold wp_X11_look
  refine xp_X0_at hB (fun y hy e => ⟨fun q => absurd q (nI_nn y (by omega)), fun _ => ?_⟩) (fun hno => ⟨fun _ => hb hno, fun q => absurd (by decide) q⟩)
  rw [nI_clamp (by omega)]
  obtain ⟨ax, l, n, q1, q2, q3, q4, q5, q6, q7, q8, q9⟩ := hR.nums hM hy
  obtain ⟨a1, a2, a3, a4, a5, a6, a7⟩ := hR.1 y hy
  refine ⟨cin_24 rfl hy, xp_X8_isRight hy (fun c => ⟨fun _ => ⟨cin_24 rfl hy, ?_⟩, fun q => absurd rfl q⟩) (fun c => ⟨fun q => absurd q (by decide), fun _ => ?_⟩)⟩
  · have h6 : Sm 6 y = 0 := by
      rcases a7 with ⟨_, w⟩ | ⟨_, w2, ⟨b, hb8, w3⟩, _⟩
      · exact w
      · rw [w2, w3] at c; exact absurd c (nI_neg1 (by omega))
    refine xq_goOver (n := n) (l := l) (ag := Sm 1) (op := fun i => (Sm 4 (60 * y + i)).toNatClampNeg) (xs := fun i => Sm 5 (60 * y + i)) hJ hB hy c q7 q6 q8 q4 (fun i hi => ?_) (fun z hz => ?_) (fun S' r hg h9 hPl => h y l n S' r hy e h6 q3 q4 q5 q6 hg h9 hPl)
    · obtain ⟨o, ho, e1, e2, e3⟩ := q9 i hi
      have : (Sm 4 (60 * y + i)).toNatClampNeg = o := by rw [e1]; exact nI_clamp (by omega)
      show (Sm 4 (60 * y + i)).toNatClampNeg < 20 ∧ cv S 250 y i = nI (Sm 4 (60 * y + i)).toNatClampNeg ∧ cv S 260 y i = Sm 5 (60 * y + i)
      rw [this]
      exact ⟨ho, e2, e3⟩
    · obtain ⟨az, lz, nz, z1, z2, _⟩ := hR.nums hM hz
      exact ⟨(hR.1 z hz).2.2.1, az, z2, z1⟩
  · rcases a7 with ⟨w, _⟩ | ⟨w, _⟩
    · exact absurd w c
    · exact hs y hy e w
theorem xq_look {S : CST} {Sm : MST} {a : Int32} (hJ : J S) (hM : MI Sm (cnP S)) (hQ : FR1 S Sm) : wp_X11_look S a (fun S' r => wp_X12_look Sm a (fun Sm' r' => Fm [6, 7, 8, 9, 10] Sm Sm' → cnP S' = cnP S → Fc [72, 80, 90, 103, 110, 248, 249, 270] S S' → PR S' Sm' → r = r' → FR1 S' Sm')) := by
  have hM8 := hJ.1
  have hP := hM.1
  have hR := hQ.1.1
  refine xq_X11_look hJ hM hR (fun hno => ?_) (fun y hy e h6 => ?_) (fun y l n S' r hy e h6 hl hl6 hn hn60 hg h9 hPl => ?_)
  · exact sq_look hP (fun _ _ _ _ _ _ => hQ) (fun m hm e _ => absurd e (hno m hm)) (fun m _ _ _ _ _ _ hm e => absurd e (hno m hm))
  · refine sq_look hP (fun q => absurd e (q y hy)) (fun _ _ _ _ _ _ _ _ _ => hQ) (fun m _ _ _ _ _ _ hm e2 h6' => ?_)
    have : m = y := nI_inj (e2.symm.trans e) (by omega) (by omega)
    rw [this, h6] at h6'
    exact absurd h6' (by decide)
  · refine sq_look hP (fun q => absurd e (q y hy)) (fun m hm e2 h6' => ?_) (fun m l' n' op xs Sm' r' hm e2 h6' hl' hl6' hn' hn60' hop hxs hops hg' => ?_)
    · have : m = y := nI_inj (e2.symm.trans e) (by omega) (by omega)
      rw [this, h6] at h6'
      exact absurd rfl h6'
    · obtain rfl : m = y := nI_inj (e2.symm.trans e) (by omega) (by omega)
      obtain rfl : n' = n := nI_inj (hn'.symm.trans hn) (by omega) (by omega)
      obtain rfl : l' = l := nI_inj (hl'.symm.trans hl) (by omega) (by omega)
      rw [← hop, ← hxs] at hg
      have hbk := lkR_bk (M := cnP S) (l := l') (n := n') (ag := Sm 1) (op := op) (xs := xs) hn60
      generalize lkR (cnP S) l' n' (Sm 1) op xs = R at hg hg' hbk
      obtain ⟨c1, c2, c3, c4⟩ := hg
      obtain ⟨d1, d2, d3, d4⟩ := hg'
      intro fm hPP f hPR _
      have nc : ∀ k : Nat, ¬ k ∈ [72, 80, 90, 103, 110, 248, 249, 270] → [72, 80, 90, 103, 110, 248, 249, 270].contains k = false := fun k hk => by
        cases hc : [72, 80, 90, 103, 110, 248, 249, 270].contains k with
        | false => rfl
        | true => exact absurd (by simpa using hc) hk
      have ne : ∀ z : Nat, Sm 6 z = 1 → z ≠ m := fun z hz w => by rw [w, h6] at hz; exact absurd hz (by decide)
      have m6 : ∀ z : Nat, z ≠ m → Sm' 6 z = Sm 6 z := fun z hz => by
        rcases d4 with ⟨_, _, _, _, _, v6, _⟩ | ⟨_, _, v6, _⟩
        · rw [v6, upd_n _ _ hz]
        · rw [v6]
      refine FR1.tell hM hQ hPR (by omega) f.2.1 (fun z hz hz2 h1 => ?_) (fun z hz hz2 => ?_) (fun z b1 b2 => absurd b2 (by omega)) (fun k hk => f.2.2 k 0 (nc k (by simp; omega)) (fun q _ => absurd q (by omega)) (fun q => absurd q (by omega))) (fun k z hk hz => f.2.2 k z (nc k (by simp; omega)) (fun _ _ => hz) (fun q => absurd q (by omega))) (fun k c hk hc => f.2.2 k c (nc k (by simp; omega)) (fun _ q => absurd q (by omega)) (fun _ => hc)) (fun k hk => fm.k (by simp; omega)) (fun z _ _ => by rw [fm 3 rfl]) (fun k z j hk hz h1 hj => ?_) (fun z hz h1 => by rw [m6 z (ne z h1)]; exact h1) (fun k z hk hz h1 => ?_)
      · by_cases w : z = m
        · rw [w] at h1 ⊢
          rcases d4 with ⟨z0, _, b, hb, _, _, _⟩ | ⟨_, _, v6, _⟩
          · obtain ⟨hb1, _⟩ := hbk z0
            intro n2 i hn2 _ hi h0 hli
            rw [fm 3 rfl] at hn2
            obtain rfl : n2 = n' := nI_inj (hn2.symm.trans hn') (by omega) (by omega)
            rw [d1 i (by omega)] at hli
            have eop : ∀ j : Nat, j < n2 → ∀ k : Nat, k < 20 → (op j = k ↔ Sm 4 (60 * m + j) = nI k) := fun j hj k hk => by
              obtain ⟨o1, o2⟩ := hops j hj
              rw [o2]
              exact ⟨fun q => by rw [q], fun q => nI_inj q (by omega) (by omega)⟩
            rw [fm 4 rfl, fm 5 rfl]
            rcases hb1 i hi h0 hli with ⟨j, x1, x2, x3, x4⟩ | ⟨x1, x2, x3⟩
            · refine Or.inl ⟨j, x1, by rw [d1 j (by omega)]; exact x2, x3.imp (eop j x1 9 (by omega)).mp (eop j x1 10 (by omega)).mp, ?_⟩
              rw [hxs] at x4; exact x4
            · exact Or.inr ⟨by rw [d1 (i - 1) (by omega)]; exact x1, fun q => x2 ((eop (i - 1) (by omega) 9 (by omega)).mpr q), fun q => x3 ((eop (i - 1) (by omega) 12 (by omega)).mpr q)⟩
          · rw [v6, h6] at h1
            exact absurd h1 (by decide)
        · rw [m6 z w] at h1
          rcases hz2 with w2 | w2
          · omega
          · rw [w2] at h1; exact absurd h1 (by decide)
      · by_cases w : z = m
        · rw [w]; exact hPl
        · have hzP : z < cnP S := by omega
          rcases hz2 with w2 | w2
          · omega
          · intro q
            rw [(c2 z w hzP).2] at q
            exact absurd ((PR.right (hR.1 z hzP)).mpr w2) q
      · rcases hk with rfl | rfl | rfl
        · rw [fm 4 rfl]
        · rw [fm 5 rfl]
        · have := ne z h1
          exact d2 _ (by omega)
      · have hzm := ne z h1
        rcases hk with rfl | rfl | rfl | rfl | rfl | rfl
        · exact f.2.2 247 z rfl (fun _ _ => hz) (fun q => absurd q (by decide))
        · exact (c2 z hzm hz).2
        · exact h9 z hzm hz
        · exact f.2.2 250 z rfl (fun _ _ => hz) (fun q => absurd q (by decide))
        · exact f.2.2 260 z rfl (fun _ _ => hz) (fun q => absurd q (by decide))
        · exact (c2 z hzm hz).1
