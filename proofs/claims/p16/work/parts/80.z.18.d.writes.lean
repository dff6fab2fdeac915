/-! BOTH between calls: method, write -/
theorem nI_neq {n : Nat} {v : Int32} (hn : n < 2 ^ 31) (hv : v < 0) : ¬ nI n = v := fun e => nI_nn n hn (by rw [e]; exact hv)
theorem xq_write {S : CST} {Sm : MST} {a o x : Int32} (hJ : J S) (hM : MI Sm (cnP S)) (hQ : FR1 S Sm) : wp_X11_write S a o x (fun S' r => wp_X12_write Sm a o x (fun Sm' r' => PR S' Sm' → r = r' → FR1 S' Sm')) := by
  have hM8 := hJ.1
  obtain ⟨hP0, hP8, hT, -⟩ := hM.1
  have hR := hQ.1.1
  have inj : ∀ {y z : Nat}, y < cnP S → z < cnP S → a = nI y → a = nI z → y = z := fun h1 h2 e1 e2 => nI_inj (e1.symm.trans e2) (by omega) (by omega)
  refine xp_X11_write (BK.of hJ hR) hJ.2.2.2.1 (fun _ => ?_) (fun _ _ _ _ _ _ _ => ?_) (fun _ _ _ _ _ _ _ _ => ?_) (fun y n o' hy e h6 hn hlt eo ho => ?_)
  · exact sq_write hP0 hP8 hT (fun _ _ _ => hQ) (fun _ _ _ _ _ _ _ _ _ => hQ) (fun _ _ _ _ _ _ _ _ _ _ => hQ) (fun _ n _ _ _ _ _ h60 _ _ _ q => absurd q.symm (nI_neq (by omega) (by decide)))
  · exact sq_write hP0 hP8 hT (fun _ _ _ => hQ) (fun _ _ _ _ _ _ _ _ _ => hQ) (fun _ _ _ _ _ _ _ _ _ _ => hQ) (fun _ n _ _ _ _ _ h60 _ _ _ q => absurd q.symm (nI_neq (by omega) (by decide)))
  · exact sq_write hP0 hP8 hT (fun _ _ _ => hQ) (fun _ _ _ _ _ _ _ _ _ => hQ) (fun _ _ _ _ _ _ _ _ _ _ => hQ) (fun _ n _ _ _ _ _ h60 _ _ _ q => absurd q.symm (nI_neq (by omega) (by decide)))
  · have q6 : Sm 6 y = 0 := (PR.right (hR.1 y hy)).mp h6
    have q3 : Sm 3 y = nI n := by rw [← (hR.1 y hy).2.2.2.2.1]; exact hn
    refine sq_write hP0 hP8 hT (fun _ _ q => absurd q (nI_neq (by omega) (by decide))) (fun _ _ _ _ _ _ _ _ q => absurd q (nI_neq (by omega) (by decide))) (fun _ _ _ _ _ _ _ _ _ q => absurd q (nI_neq (by omega) (by decide))) (fun m n' _ hm e2 _ w hlt' _ _ hPR _ => ?_)
    obtain rfl := inj hm hy e2 e
    obtain rfl : n' = n := nI_inj (w.symm.trans q3) (by omega) (by omega)
    have g : ∀ k : Nat, k ≠ 247 → k ≠ 250 → k ≠ 260 → cv (wrC S m n' o x) k = cv S k := fun k a b c => by unfold wrC; rw [cs_c a, cs_c c, cs_c b]
    have gz : ∀ k z : Nat, z ≠ m → cv (wrC S m n' o x) k z = cv S k z := fun k z hz => by unfold wrC; rw [cs_n _ _ (fun w => hz w.2), cs_n _ _ (fun w => hz w.2), cs_n _ _ (fun w => hz w.2)]
    have gm : ∀ k : Nat, k ≠ 3 → k ≠ 4 → k ≠ 5 → wrS Sm m n' o x k = Sm k := fun k a b c => by unfold wrS; rw [ms_n _ _ a, ms_n _ _ c, ms_n _ _ b]
    have m3 : wrS Sm m n' o x 3 = upd (Sm 3) m (nI (n' + 1)) := by unfold wrS; rw [ms_s]
    have m4 : wrS Sm m n' o x 4 = upd (Sm 4) (60 * m + n') o := by unfold wrS; rw [ms_n _ _ (by decide), ms_n _ _ (by decide), ms_s]
    have m5 : wrS Sm m n' o x 5 = upd (Sm 5) (60 * m + n') x := by unfold wrS; rw [ms_n _ _ (by decide), ms_s]
    have ne : ∀ z : Nat, Sm 6 z = 1 → z ≠ m := fun z hz w => by rw [w, q6] at hz; exact absurd hz (by decide)
    refine FR1.tell hM hQ hPR (Nat.le_refl _) (Nat.le_refl _) (fun z hz hz2 h1 => ?_) (fun z hz hz2 h1 => ?_) (fun z a b => absurd (show z < cnP S from b) (by omega)) (fun k hk => by rw [g k (by omega) (by omega) (by omega)]) (fun k z hk _ => by rw [g k (by omega) (by omega) (by omega)]) (fun k c hk _ => by rw [g k (by omega) (by omega) (by omega)]) (fun k hk => gm k (by omega) (by omega) (by omega)) (fun z hz h1 => by rw [m3, upd_n _ _ (ne z h1)]) (fun k z j hk hz h1 hj => ?_) (fun z hz h1 => by rw [gm 6 (by decide) (by decide) (by decide)]; exact h1) (fun k z _ _ h1 => gz k z (ne z h1))
    · have hz : z < cnP S := hz
      rcases hz2 with w2 | w2
      · omega
      · rw [gm 6 (by decide) (by decide) (by decide), w2] at h1
        exact absurd h1 (by decide)
    · have hz : z < cnP S := hz
      rcases hz2 with w2 | w2
      · omega
      · rw [g 248 (by decide) (by decide) (by decide)] at h1
        exact absurd ((PR.right (hR.1 z hz)).mpr w2) h1
    · have hzm := ne z h1
      rcases hk with rfl | rfl | rfl
      · rw [m4, upd_n _ _ (by omega)]
      · rw [m5, upd_n _ _ (by omega)]
      · rw [gm 7 (by decide) (by decide) (by decide)]
theorem xq_method {S : CST} {Sm : MST} {a l : Int32} (hJ : J S) (hM : MI Sm (cnP S)) (hQ : FR1 S Sm) : wp_X11_method S a l (fun S' r => wp_X12_method Sm a l (fun Sm' r' => PR S' Sm' → r = r' → FR1 S' Sm')) := by
  have hM8 := hJ.1
  obtain ⟨hP0, hP8, hT, hlk, hz⟩ := hM.1
  have hR := hQ.1.1
  have h11 := hJ.2.1
  have stay : ∀ v : Int32, v < 0 → wp_X12_method Sm a l (fun Sm' r' => PR S Sm' → v = r' → FR1 S Sm') := fun v hv => sp_method hP0 hP8 (fun _ _ _ => hQ) (fun _ _ _ _ => hQ) (fun _ hlt _ _ _ _ _ _ _ _ q => absurd q.symm (nI_neq (by omega) hv))
  unfold wp_X11_method
  refine ⟨fun c => stay _ (by decide), fun c1 => ⟨fun c => stay _ (by decide), fun c2 => ⟨fun c => stay _ (by decide), fun c3 => ⟨fun c4 => ?_, fun c4 => stay _ (by decide)⟩⟩⟩⟩
  have z : zmeth a l = 0 := by unfold zmeth; rw [if_neg c1, if_neg c2, if_neg c3, if_pos c4]
  unfold wp_X0_tell
  refine ⟨fun c8 => ?_, fun c8 => stay _ (by decide)⟩
  have hP : cnP S < 8 := by
    rw [h11] at c8
    exact Nat.not_le.mp (fun q => absurd c8 (Int32.not_lt.mpr (nI_le (a := 8) q (by omega))))
  refine ⟨hJ.2.2.1, by rw [h11]; exact nI_nn _ (by omega), by rw [h11]; exact nI_clamp (by omega), hP, fun S1 e1 S2 e2 S7 e7 => ?_⟩
  obtain ⟨q1, q2, q3⟩ := hJ.tell hP e1 e2 e7
  rw [q3, nI_m1 (by omega)]
  have pC : cnC S7 = cnC S := by rw [e7, e2, e1]; rfl
  have l2 : ∀ k i : Nat, k ≠ 11 → k ≠ 20 → cv S7 k i = cv S1 k i := fun k i a b => by
    rw [e7, cs_n _ _ (fun w => a w.1), e2, cs_n _ _ (fun w => b w.1)]
  have old : ∀ k i : Nat, k ≠ 11 → k ≠ 20 → ¬ (i = cnP S ∧ 240 ≤ k ∧ k < 320) → cv S7 k i = cv S k i := fun k i a b c => (l2 k i a b).trans (by rw [e1]; exact if_neg c)
  have new : ∀ k : Nat, 240 ≤ k → k < 320 → cv S7 k (cnP S) = fun _ => newP (cv S 11 0 0) a l k := fun k x y => by
    rw [l2 k _ (by omega) (by omega), e1, show cv (addP S (cv S 11 0 0) a l) k (cnP S) = fun _ => newP (cv S 11 0 0) a l k from if_pos ⟨rfl, x, y⟩]
  have g : ∀ q : Nat, q ≠ 0 → q ≠ 1 → q ≠ 2 → mtS Sm (cnP S) a l q = Sm q := fun q x y z => by unfold mtS; rw [ms_n _ _ x, ms_n _ _ z, ms_n _ _ y]
  obtain ⟨z3, z6⟩ := hz _ (Nat.le_refl _) hP
  obtain ⟨z15, z17⟩ := hM.2.2.2 (cnP S) (by omega) z6
  obtain ⟨z16, z18, z19, z22⟩ := hQ.1.2.2.2.2 (cnP S) (Nat.le_refl _) hP
  refine sp_method hP0 hP8 (fun w => absurd (z.symm.trans w) (by decide)) (fun _ w => absurd w (by omega)) (fun _ _ _ _ _ _ _ _ _ hPR _ => ?_)
  refine FR1.tell hM hQ hPR (by omega) (by omega) (fun y hy hy2 h1 => ?_) (fun y hy hy2 h1 => ?_) (fun y b1 b2 => ?_) (fun k hk => old k 0 (by omega) (by omega) (by omega)) (fun k y hk hy => old k y (by omega) (by omega) (by omega)) (fun k c hk _ => old k c (by omega) (by omega) (by omega)) (fun k hk => g k (by omega) (by omega) (by omega)) (fun y _ _ => by rw [g 3 (by decide) (by decide) (by decide)]) (fun k y j hk _ _ _ => by rw [g k (by omega) (by omega) (by omega)]) (fun y _ h1 => by rw [g 6 (by decide) (by decide) (by decide)]; exact h1) (fun k y hk hy _ => old k y (by omega) (by omega) (by omega))
  · rw [g 6 (by decide) (by decide) (by decide)] at h1
    rcases hy2 with w | w
    · rw [show y = cnP S by omega, z6] at h1; exact absurd h1 (by decide)
    · rw [w] at h1; exact absurd h1 (by decide)
  · by_cases w : y = cnP S
    · rw [w, new 248 (by decide) (by decide)] at h1
      exact absurd rfl h1
    · rcases hy2 with w2 | w2
      · omega
      · rw [old 248 y (by decide) (by decide) (by omega)] at h1
        exact absurd ((PR.right (hR.1 y (by omega))).mpr w2) h1
  · obtain rfl : y = cnP S := by omega
    refine ⟨?_, ?_, ?_, ?_, ?_, fun t ht => ?_, ⟨0, by omega, ?_, fun q => absurd q (by omega)⟩, fun _ => ?_, fun k hk h17 => ?_⟩
    · rw [new 280 (by decide) (by decide), g 15 (by decide) (by decide) (by decide), z15]; rfl
    · rw [new 282 (by decide) (by decide), g 16 (by decide) (by decide) (by decide), z16]; rfl
    · rw [new 283 (by decide) (by decide), g 17 (by decide) (by decide) (by decide), z17]; rfl
    · rw [new 284 (by decide) (by decide), g 18 (by decide) (by decide) (by decide), z18]; rfl
    · rw [new 285 (by decide) (by decide), g 19 (by decide) (by decide) (by decide), z19]; rfl
    · rw [new 310 (by decide) (by decide), g 22 (by decide) (by decide) (by decide), z22 t ht]; rfl
    · rw [g 16 (by decide) (by decide) (by decide), z16]; rfl
    · rw [new 281 (by decide) (by decide)]; exact (by decide : (-1 : Int32) < 0)
    · rw [g 17 (by decide) (by decide) (by decide), z17] at h17
      exact absurd (nI_inj (a := 0) (b := k + 1) h17 (by omega) (by omega)) (by omega)
