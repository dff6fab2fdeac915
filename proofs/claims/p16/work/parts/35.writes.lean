/-! the reference's method(), write(), keep(), lose() -/
theorem zmeth_bad1 {a l : Int32} (h : a.toInt < 0 ∨ 3 < a.toInt) : zmeth a l = -2 := by
  have h0 : (0 : Int32).toInt = 0 := by decide
  have h3 : (3 : Int32).toInt = 3 := by decide
  unfold zmeth
  rcases h with h | h
  · rw [if_pos (Int32.lt_iff_toInt_lt.mpr (by omega))]
  · rw [if_pos (c := 3 < a) (Int32.lt_iff_toInt_lt.mpr (by omega))]
    split <;> rfl
theorem zmeth_bad2 {a l : Int32} (ha : 0 ≤ a.toInt) (hb : a.toInt ≤ 3) (h : l.toInt < a.toInt ∨ 6 < l.toInt) : zmeth a l = -2 := by
  have h0 : (0 : Int32).toInt = 0 := by decide
  have h3 : (3 : Int32).toInt = 3 := by decide
  have h6 : (6 : Int32).toInt = 6 := by decide
  unfold zmeth
  rw [if_neg (fun q => by have := Int32.lt_iff_toInt_lt.mp q; omega), if_neg (fun q => by have := Int32.lt_iff_toInt_lt.mp q; omega)]
  rcases h with h | h
  · rw [if_pos (Int32.lt_iff_toInt_lt.mpr (by omega))]
  · rw [if_neg (c := l ≤ 6) (fun q => by have := Int32.le_iff_toInt_le.mp q; omega)]
    split <;> rfl
theorem zmeth_good {a l : Int32} (ha : 0 ≤ a.toInt) (hb : a.toInt ≤ 3) (h1 : a.toInt ≤ l.toInt) (h2 : l.toInt ≤ 6) : zmeth a l = 0 := by
  have h0 : (0 : Int32).toInt = 0 := by decide
  have h3 : (3 : Int32).toInt = 3 := by decide
  have h6 : (6 : Int32).toInt = 6 := by decide
  unfold zmeth
  rw [if_neg (fun q => by have := Int32.lt_iff_toInt_lt.mp q; omega), if_neg (fun q => by have := Int32.lt_iff_toInt_lt.mp q; omega), if_neg (fun q => by have := Int32.lt_iff_toInt_lt.mp q; omega), if_pos (Int32.le_iff_toInt_le.mpr (by omega))]
/-- a METHOD more -/
def mtS (S : MST) (M : Nat) (a l : Int32) : MST := ms (ms (ms S 1 (upd (S 1) M a)) 2 (upd (S 2) M l)) 0 (fun _ => nI (M + 1))
theorem sp_method {S : MST} {M : Nat} {a l : Int32} {Post : MST → Int32 → Prop} (hM : S 0 0 = nI M) (hM8 : M ≤ 8) (hbad : zmeth a l = -2 → Post S (-2)) (hfull : zmeth a l = 0 → M = 8 → Post S (-4))
    (hnew : zmeth a l = 0 → M < 8 → ∀ ax l' : Nat, a = nI ax → l = nI l' → ax ≤ 3 → ax ≤ l' → l' ≤ 6 → Post (mtS S M a l) (nI M)) : wp_X12_method S a l Post := by
  have t0 : (0 : Int64).toInt = 0 := by decide
  have t3 : (3 : Int64).toInt = 3 := by decide
  have t6 : (6 : Int64).toInt = 6 := by decide
  unfold wp_X12_method
  refine sp_inL (fun h => ⟨fun _ => hbad (zmeth_bad1 (by rw [t0, t3] at h; exact h)), fun q => absurd rfl q⟩) (fun ha hb => ⟨fun q => absurd q (by decide), fun _ => ?_⟩)
  rw [t0] at ha
  rw [t3] at hb
  refine sp_in (fun h => ⟨fun q => absurd rfl q, fun _ => hbad (zmeth_bad2 ha hb (by rw [Int32.toInt_toInt64, Int32.toInt_toInt64, t6] at h; exact h))⟩) (fun h1 h2 => ⟨fun _ => ?_, fun q => absurd q (by decide)⟩)
  rw [Int32.toInt_toInt64, Int32.toInt_toInt64] at h1
  rw [Int32.toInt_toInt64, t6] at h2
  have hg := zmeth_good ha hb h1 h2
  rw [hM]
  refine ⟨fun q => ?_, fun q => hfull hg (nI_inj (b := 8) q (by omega) (by omega))⟩
  have hM7 : M < 8 := by
    rcases Nat.lt_or_ge M 8 with w | w
    · exact w
    · exact absurd (congrArg nI (show M = 8 by omega)) q
  refine ⟨vp_in_nI hM7 (by omega), fun S6 e6 => ?_⟩
  have g6 : S6 0 0 = nI M := by rw [e6, ms_n _ _ (show 0 ≠ 1 by decide)]; exact hM
  rw [g6]
  refine ⟨vp_in_nI hM7 (by omega), fun S7 e7 S8 e8 => ?_⟩
  have g7 : S7 0 0 = nI M := by rw [e7, ms_n _ _ (show 0 ≠ 2 by decide)]; exact g6
  rw [g7, nI_1] at e8
  rw [nI_clamp (n := M) (by omega)] at e6 e7
  have e : S8 = mtS S M a l := by
    rw [e8, e7, show S6 2 = S 2 by rw [e6, ms_n _ _ (show 2 ≠ 1 by decide)], e6]; rfl
  obtain ⟨ax, hax, ea⟩ := z_nat (M := 4) (a := a) (by omega) (by omega) (by omega)
  obtain ⟨l', hl', el⟩ := z_nat (M := 7) (a := l) (by omega) (by omega) (by omega)
  rw [ea, el, nI_toInt (by omega), nI_toInt (by omega)] at h1
  have key := hnew hg hM7 ax l' ea el (by omega) (by omega) (by omega)
  rw [e]
  have e0 : mtS S M a l 0 0 - 1 = nI M := by
    unfold mtS
    rw [ms_s, nI_m1 (by omega)]; rfl
  rw [e0]
  exact key
/-- an INSTRUCTION more: the n-th of METHOD m -/
def wrS (S : MST) (m n : Nat) (o x : Int32) : MST := ms (ms (ms S 4 (upd (S 4) (60 * m + n) o)) 5 (upd (S 5) (60 * m + n) x)) 3 (upd (S 3) m (nI (n + 1)))
theorem sp_write {S : MST} {M : Nat} {a o x : Int32} {Post : MST → Int32 → Prop} (hM : S 0 0 = nI M) (hM8 : M ≤ 8) (hT : toldM S M) (hb : Post S (-2)) (hs : ∀ m : Nat, m < M → a = nI m → ¬ S 6 m = 0 → Post S (-3)) (hf : ∀ m : Nat, m < M → a = nI m → S 6 m = 0 → S 3 m = nI 60 → Post S (-4))
    (hw : ∀ (m n o' : Nat), m < M → a = nI m → S 6 m = 0 → S 3 m = nI n → n < 60 → o = nI o' → o' < 20 → Post (wrS S m n o x) (nI n)) : wp_X12_write S a o x Post := by
  have t0 : (0 : Int64).toInt = 0 := by decide
  have t19 : (19 : Int64).toInt = 19 := by decide
  unfold wp_X12_write
  refine sp_isMethod hM hM8 (fun _ => ⟨fun _ => hb, fun q => absurd rfl q⟩) (fun m hm e => ⟨fun q => absurd q (by decide), fun _ => ?_⟩)
  refine sp_inL (fun _ => ⟨fun q => absurd rfl q, fun _ => hb⟩) (fun h1 h2 => ⟨fun _ => ?_, fun q => absurd q (by decide)⟩)
  rw [t0] at h1
  rw [t19] at h2
  obtain ⟨o', ho', eo⟩ := z_nat (M := 20) (a := o) (by omega) (by omega) (by omega)
  have hc : (nI m).toNatClampNeg = m := nI_clamp (by omega)
  have hv : vp_in (nI m) 8 := vp_in_nI (by omega) (by omega)
  obtain ⟨_, _, n, _, _, _, _, _, hn, hn60, _⟩ := hT m hm
  rw [e, hc]
  refine ⟨hv, fun h6 => ⟨hv, fun hne => ?_, fun q => hf m hm e h6 (by rw [q]; rfl)⟩, fun h6 => hs m hm e h6⟩
  have hn59 : n < 60 := by
    rcases Nat.lt_or_ge n 60 with w | w
    · exact w
    · exact absurd (hn.trans (congrArg nI (show n = 60 by omega))) hne
  rw [hn, ix60]
  refine ⟨hv, vp_in_nI (by omega) (by omega), fun S10 e10 => ⟨hv, ?_⟩⟩
  have g10 : S10 3 m = nI n := by rw [e10, ms_n _ _ (show 3 ≠ 4 by decide)]; exact hn
  rw [g10, ix60]
  rw [nI_clamp (n := 60 * m + n) (by omega)] at e10 ⊢
  refine ⟨vp_in_nI (by omega) (by omega), fun S12 e12 => ⟨hv, hv, ?_⟩⟩
  have g12 : S12 3 m = nI n := by rw [e12, ms_n _ _ (show 3 ≠ 5 by decide)]; exact g10
  rw [g12, nI_1]
  refine fun S14 e14 => ⟨hv, ?_⟩
  have e : S14 = wrS S m n o x := by
    rw [e14, e12, show S10 5 = S 5 by rw [e10, ms_n _ _ (show 5 ≠ 4 by decide)], ms_n _ _ (show 3 ≠ 5 by decide), e10, ms_n _ _ (show 3 ≠ 4 by decide)]; rfl
  have e3 : S14 3 m = nI (n + 1) := by rw [e14, ms_s, upd_s]
  rw [e3, nI_m1 (by omega), e]
  exact hw m n o' hm (by assumption) h6 hn hn59 eo ho'
theorem sp_keep {S : MST} {a v : Int32} {Post : MST → Int32 → Prop} (hb : Post S (-2147483648)) (h : ∀ f : Nat, f < 8 → a = nI f → Post (ms S 12 (upd (S 12) f v)) (S 12 f)) : wp_X12_keep S a v Post := by
  unfold wp_X12_keep
  have t0 : (0 : Int64).toInt = 0 := by decide
  have t7 : (7 : Int64).toInt = 7 := by decide
  refine sp_inL (fun _ => ⟨fun q => absurd rfl q, fun _ => hb⟩) (fun h1 h2 => ⟨fun _ => ?_, fun q => absurd q (by decide)⟩)
  obtain ⟨y, hy, e⟩ := z_nat (M := 8) (a := a) (by omega) (by omega) (by omega)
  have hv : vp_in a 8 := by rw [e]; exact vp_in_nI (by omega) (by omega)
  have hc : a.toNatClampNeg = y := by rw [e]; exact nI_clamp (by omega)
  rw [hc]
  exact ⟨hv, hv, fun S4 e4 => by rw [e4]; exact h y hy e⟩
theorem sp_lose {S : MST} {a : Int32} {Post : MST → Int32 → Prop} (hb : Post S (-2)) (h : ∀ r : Nat, r < 4 → a = nI r → Post (ms S 13 (upd (S 13) r (-1))) (S 13 r)) : wp_X12_lose S a Post := by
  unfold wp_X12_lose
  have t0 : (0 : Int64).toInt = 0 := by decide
  have t3 : (3 : Int64).toInt = 3 := by decide
  refine sp_inL (fun _ => ⟨fun q => absurd rfl q, fun _ => hb⟩) (fun h1 h2 => ⟨fun _ => ?_, fun q => absurd q (by decide)⟩)
  obtain ⟨y, hy, e⟩ := z_nat (M := 4) (a := a) (by omega) (by omega) (by omega)
  have hv : vp_in a 4 := by rw [e]; exact vp_in_nI (by omega) (by omega)
  have hc : a.toNatClampNeg = y := by rw [e]; exact nI_clamp (by omega)
  rw [hc]
  exact ⟨hv, hv, fun S4 e4 => by rw [e4]; exact h y hy e⟩
