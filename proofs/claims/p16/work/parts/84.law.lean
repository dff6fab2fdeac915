theorem zl_end {p : Program} {e : Env} {s : State} {m : MethodId} {below : List Frame} {meth : Method} {c : Code} (l : Launch) {bs L : Nat} {xs : Nat → Int32} (C0 : lw_At p s m meth c bs L xs) {A : Nat → Prop} (hfin : ∀ q : Nat, A q → s.heap.size ≤ q) {H : Heap} {locs : List Loc} {cells slots : Nat} {ls : Array Slot} (hc : cells ≤ 600000) (hs : slots ≤ 7302250) (hS : va_S A s.heap H locs) : W p l e room_1 s m #[Value.ref bs] below meth c H locs cells slots (lw_Z below #[Value.ref bs] s) (F0 m 640 ls []) := by
  obtain ⟨hx, hb, hr, hml, hown, hts, hX, hbl, hlocks, hgv⟩ := C0
  refine lv_iconst (v := 1) hx hb dL_law_640 (by decide) ?_
  refine va_forget (fun q hq => hfin _ (hS.2.2 q hq)) ?_
  refine W.widen (k := 600000) (n := 7302250) hc hs ?_
  exact lw_ret hx hb hr hlocks dL_law_641
theorem z_len {j L : Nat} (h : L < 5 * j + 5) (hL : L ≤ 2560) (hj : j ≤ 100000) : Int32.ofNat L - 5 < nI (5 * j) := by
  have e : (Int32.ofNat L : Int32) = nI L := rfl
  rw [e, Int32.lt_iff_toInt_lt]
  have h1 : (nI (5 * j) : Int32).toInt = 5 * j := by rw [nI_toIntC (by omega)]; omega
  rw [h1]
  by_cases h5 : 5 ≤ L
  · rw [show (nI L : Int32) - 5 = nI (L - 5) from nI_sub h5, nI_toIntC (by omega)]; omega
  · rcases (show L = 0 ∨ L = 1 ∨ L = 2 ∨ L = 3 ∨ L = 4 by omega) with rfl | rfl | rfl | rfl | rfl
    · have : ((nI 0 : Int32) - 5).toInt = -5 := by decide
      omega
    · have : ((nI 1 : Int32) - 5).toInt = -4 := by decide
      omega
    · have : ((nI 2 : Int32) - 5).toInt = -3 := by decide
      omega
    · have : ((nI 3 : Int32) - 5).toInt = -2 := by decide
      omega
    · have : ((nI 4 : Int32) - 5).toInt = -1 := by decide
      omega
theorem z_len2 {j L : Nat} (h : 5 * j + 5 ≤ L) (hL : L ≤ 2560) : ¬ Int32.ofNat L - 5 < nI (5 * j) := by
  have e : (Int32.ofNat L : Int32) = nI L := rfl
  rw [e, show (nI L : Int32) - 5 = nI (L - 5) from nI_sub (a := L) (b := 5) (by omega)]
  exact Int32.not_lt.mpr (nI_le (by omega) (by omega))
theorem z_dis {A : Nat → Prop} {ws w1 w2 : va_W} (hD : va_D A ws) (i1 i2 : List Nat) (h1 : i1.map (fun i => ws[i]?) = w1.map some) (h2 : i2.map (fun i => ws[i]?) = w2.map some) (hd : (i1.all fun i => !i2.contains i) = true) (k1 k2 a : Nat) (e1 e2 : va_E) (a1 : w1[k1]? = some (a, e1)) (a2 : w2[k2]? = some (a, e2)) : False := by
  have g : ∀ (is : List Nat) (w : va_W), is.map (fun i => ws[i]?) = w.map some → ∀ (k : Nat) (x : Nat × va_E), w[k]? = some x → ∃ i, is[k]? = some i ∧ ws[i]? = some x := by
    intro is w h k x hk
    have h3 : (w.map some)[k]? = some (some x) := by rw [List.getElem?_map, hk]; rfl
    rw [← h, List.getElem?_map] at h3
    cases hi : is[k]? with
    | none => rw [hi] at h3; cases h3
    | some i => rw [hi] at h3; exact ⟨i, rfl, Option.some.inj h3⟩
  obtain ⟨i, q1, q2⟩ := g i1 w1 h1 k1 _ a1
  obtain ⟨i', q3, q4⟩ := g i2 w2 h2 k2 _ a2
  have := hD.1 i i' _ _ q2 q4 rfl
  subst this
  have h5 := List.all_eq_true.mp hd i (List.mem_of_getElem? q1)
  have h6 : i2.contains i = true := by simpa using List.mem_of_getElem? q3
  rw [h6] at h5
  cases h5
theorem z_nmset {L L' : va_W} {p a : Nat} {x y : Nat × va_E} (h : zNm L' a) (hp : L[p]? = some x) (hL : L' = L.set p (x.1, y.2)) : zNm L a := by
  obtain ⟨k, e, hk⟩ := h
  rw [hL] at hk
  by_cases hkp : k = p
  · rw [hkp, List.getElem?_set_self (List.getElem?_eq_some_iff.mp hp).1] at hk
    have h1 : (x.1, y.2) = (a, e) := Option.some.inj hk
    have h2 : x.1 = a := congrArg Prod.fst h1
    exact ⟨p, x.2, by rw [← h2]; exact hp⟩
  · rw [List.getElem?_set_ne (Ne.symm hkp)] at hk
    exact ⟨k, e, hk⟩
set_option maxHeartbeats 4000000 in
set_option maxRecDepth 100000 in
theorem zl_0 {p : Program} {e : Env} {s : State} {m : MethodId} {below : List Frame} {meth : Method} {c : Code} (l : Launch) {bs L : Nat} {xs : Nat → Int32} (C0 : lw_At p s m meth c bs L xs) (hL : L ≤ 2560) {A : Nat → Prop} (hA : ∀ q : Nat, s.heap.size ≤ q → A q) (hbA : ¬ A bs) {D : va_G} {cI cZ cP cF : Nat} (hE : zF D cI cZ cP cF s) (hT : zT A s s.heap) {m0 : Nat} {qm : Nat → Nat} {q : Nat → Nat → Nat} {S : CST} {Sm : MST} (hJ : J S) (hM : MI Sm (cnP S)) (hR : FR1 S Sm) {H : Heap} {locs : List Loc} {cells slots : Nat} {ls : Array Slot} (h2 : two D A (cW cI cZ cP cF q S) (mW cI cZ m0 qm Sm) H) (hS : va_S A s.heap H locs) (hcs : cells ≤ 95 + 8 * cnP S + 3 * cnC S ∧ slots ≤ 323715 + 232 * cnP S + 7619 * cnC S) {j : Nat} (hj : 5 * j + 5 ≤ L) (hl : lv_has ls 4 [(3, .int (nI (5 * j))), (2, .ref m0), (1, .ref (q 0 0)), (0, .ref bs)]) (ih : ∀ (q : Nat → Nat → Nat) (S : CST) (Sm : MST) (H : Heap) (locs : List Loc) (cells slots : Nat) (ls : Array Slot), J S → MI Sm (cnP S) → FR1 S Sm → two D A (cW cI cZ cP cF q S) (mW cI cZ m0 qm Sm) H → va_S A s.heap H locs → (cells ≤ 95 + 8 * cnP S + 3 * cnC S ∧ slots ≤ 323715 + 232 * cnP S + 7619 * cnC S) → lv_has ls 4 [(3, .int (nI (5 * (j + 1)))), (2, .ref m0), (1, .ref (q 0 0)), (0, .ref bs)] → W p l e room_1 s m #[Value.ref bs] below meth c H locs cells slots (lw_Z below #[Value.ref bs] s) (F0 m 18 ls [])) : W p l e room_1 s m #[Value.ref bs] below meth c H locs cells slots (lw_Z below #[Value.ref bs] s) (F0 m 120 ls []) := by
  obtain ⟨hx, hb, hr, hml, hown, hts0, hX, hbl, hlocks, hgv⟩ := id C0
  have hts : ∀ w ∈ zw_law, w.before #[Value.ref bs] s = true := fun w h => hts0 w (zw_law_in w h)
  have hown : s.vm.findClass RL = some m.cls := hown
  have hK := hE.k
  have hcap := hJ.cap
  obtain ⟨hcP, hcC⟩ := id hcap
  obtain ⟨hcs1, hcs2⟩ := id hcs
  refine lv_aload_n hx hb dL_law_120 rfl (lv_at hl 2 rfl) ?_
  refine lv_aload_n hx hb dL_law_121 rfl (lv_at hl 3 rfl) ?_
  refine lv_iload_n hx hb dL_law_122 rfl (lv_at hl 0 rfl) ?_
  refine lv_iconst (v := 1) hx hb dL_law_123 (by decide) ?_
  refine lv_iadd hx hb dL_law_124 ?_
  have hin_1 : vp_in (nI (5 * j) + 1) L := by rw [show nI (5 * j) + 1 = nI (5 * j + 1) from nI_add _ 1]; exact vp_in_nI (by omega) (by omega)
  refine va_sld hx hb hX hbl hbA hS hin_1 dL_law_125 ?_
  refine lv_aload_n hx hb dL_law_126 rfl (lv_at hl 3 rfl) ?_
  refine lv_iload_n hx hb dL_law_127 rfl (lv_at hl 0 rfl) ?_
  refine lv_iconst (v := 2) hx hb dL_law_128 (by decide) ?_
  refine lv_iadd hx hb dL_law_129 ?_
  have hin_2 : vp_in (nI (5 * j) + 2) L := by rw [show nI (5 * j) + 2 = nI (5 * j + 2) from nI_add _ 2]; exact vp_in_nI (by omega) (by omega)
  refine va_sld hx hb hX hbl hbA hS hin_2 dL_law_130 ?_
  obtain ⟨p_0, hp_0⟩ := cget_0 cI cZ cP cF q S
  have hFc := zm_free h2.2.2.1 hS hA
  refine xc_i (z_runV (As := [.int (xs (nI (5 * j) + 1 : Int32).toNatClampNeg), .int (xs (nI (5 * j) + 2 : Int32).toNatClampNeg)]) (rest := []) ⟨hx, hb, hml, hown, hts⟩ (zd_X11_method l D cI cZ cP cF q S (xs (nI (5 * j) + 1 : Int32).toNatClampNeg) (xs (nI (5 * j) + 2 : Int32).toNatClampNeg) H.size _ (zq_method hJ hM hR) hcap) (cwV 2 hts zg_law_zd_X11_method rfl rfl rfl (by decide +kernel) ⟨Nat.le_of_ble_eq_true rfl, Nat.le_of_ble_eq_true rfl⟩) ⟨zCW, va_recv hK h2.1 (ci := 11) (q0 := p_0) rfl hp_0, fun U hU hW => ⟨rfl, by rw [hU], by rw [hU]; exact h2.1, hE.warm hW, h2.2.2.1.weaken (fun _ _ _ _ => trivial)⟩⟩ rfl rfl hl.1 rfl (lv_room (Nat.le_of_ble_eq_true rfl)) dL_law_131 ⟨by show cells + rmc S ≤ 600000; unfold rmc; omega, by show slots + rms S ≤ 7302250; unfold rms; omega⟩) hS (fun q _ h => hFc q h) hFc (fun r131 q' S' k n t H locs ht hvm h hB hz1 hk1 hS => ?_)
  obtain ⟨hP1, hD1, hq1, g1, g2, g3, g4, g5, g6⟩ := hB
  rw [ht] at hP1
  have h2 := two_l h2 hk1 hP1 hD1 hFc
  have hl : lv_has ls 4 [(3, .int (nI (5 * j))), (2, .ref m0), (1, .ref (q' 0 0)), (0, .ref bs)] := by rw [hq1 0 0 (cinS (by decide))]; exact hl
  have hcs : cells + k ≤ 95 + 8 * cnP S' + 3 * cnC S' ∧ slots + n ≤ 323715 + 232 * cnP S' + 7619 * cnC S' := ⟨by omega, by omega⟩
  obtain ⟨hJ2, hw⟩ := h
  have hcap2 := hJ2.cap
  obtain ⟨hc1, hc2⟩ := hcap2
  refine lv_pop hx hb dL_law_134 rfl ?_
  refine lv_aload_n hx hb dL_law_135 rfl (lv_at hl 1 rfl) ?_
  refine lv_aload_n hx hb dL_law_136 rfl (lv_at hl 3 rfl) ?_
  refine lv_iload_n hx hb dL_law_137 rfl (lv_at hl 0 rfl) ?_
  refine lv_iconst (v := 1) hx hb dL_law_138 (by decide) ?_
  refine lv_iadd hx hb dL_law_139 ?_
  have hin_3 : vp_in (nI (5 * j) + 1) L := by rw [show nI (5 * j) + 1 = nI (5 * j + 1) from nI_add _ 1]; exact vp_in_nI (by omega) (by omega)
  refine va_sld hx hb hX hbl hbA hS hin_3 dL_law_140 ?_
  refine lv_aload_n hx hb dL_law_141 rfl (lv_at hl 3 rfl) ?_
  refine lv_iload_n hx hb dL_law_142 rfl (lv_at hl 0 rfl) ?_
  refine lv_iconst (v := 2) hx hb dL_law_143 (by decide) ?_
  refine lv_iadd hx hb dL_law_144 ?_
  have hin_4 : vp_in (nI (5 * j) + 2) L := by rw [show nI (5 * j) + 2 = nI (5 * j + 2) from nI_add _ 2]; exact vp_in_nI (by omega) (by omega)
  refine va_sld hx hb hX hbl hbA hS hin_4 dL_law_145 ?_
  have hFc := zm_free h2.2.2.2.1 hS hA
  refine va_calli (va_runV (As := [.int (xs (nI (5 * j) + 1 : Int32).toNatClampNeg), .int (xs (nI (5 * j) + 2 : Int32).toNatClampNeg)]) (rest := []) ⟨hx, hb, hml, hown, hts⟩ (zd_X12_method l D cI cZ cP cF m0 qm Sm (xs (nI (5 * j) + 1 : Int32).toNatClampNeg) (xs (nI (5 * j) + 2 : Int32).toNatClampNeg) H.size _ hw) (cwV 2 hts zg_law_zd_X12_method rfl rfl rfl (by decide +kernel) ⟨Nat.le_of_ble_eq_true rfl, Nat.le_of_ble_eq_true rfl⟩) ⟨zBW, va_recv hK h2.2.1 (ci := 12) (q0 := 0) rfl rfl, fun U hU hW => ⟨rfl, by rw [hU], by rw [hU]; exact h2.2.1, hE.1.warm hW, h2.2.2.2.1.weaken (fun _ _ _ _ => trivial)⟩⟩ rfl rfl hl.1 rfl (lv_room (Nat.le_of_ble_eq_true rfl)) dL_law_146 ⟨by show cells + k + 0 ≤ 600000; omega, by show slots + n + 0 ≤ 7302250; omega⟩) hS (fun q _ h => hFc q h) hFc (fun r146 Sm' t H locs ht hvm h hB hz1 hk1 hS => ?_)
  obtain ⟨hP1, hD1⟩ := hB
  rw [ht] at hP1
  have h2 := two_r h2 hk1 hP1 hD1 hFc
  obtain ⟨hM2, hR2, hre⟩ := h
  refine lv_pop hx hb dL_law_149 rfl ?_
  refine lv_goto (tgt := 634) hx hb dL_law_150 (by decide) ?_
  refine lv_iinc (v := nI (5 * (j + 1))) (lv' := [(3, .int (nI (5 * (j + 1)))), (2, .ref m0), (1, .ref (q' 0 0)), (0, .ref bs)]) hx hb dL_law_634 hl (k := 0) rfl (by rw [show 5 * (j + 1) = 5 * j + 5 by omega]; exact nI_add _ 5) (by decide) rfl (fun ls hl => ?_)
  refine lv_goto (tgt := 18) hx hb dL_law_637 (by decide) ?_
  exact ih q' S' Sm' H locs _ _ ls hJ2 hM2 hR2 h2 hS hcs hl

set_option maxHeartbeats 4000000 in
set_option maxRecDepth 100000 in
theorem zl_1 {p : Program} {e : Env} {s : State} {m : MethodId} {below : List Frame} {meth : Method} {c : Code} (l : Launch) {bs L : Nat} {xs : Nat → Int32} (C0 : lw_At p s m meth c bs L xs) (hL : L ≤ 2560) {A : Nat → Prop} (hA : ∀ q : Nat, s.heap.size ≤ q → A q) (hbA : ¬ A bs) {D : va_G} {cI cZ cP cF : Nat} (hE : zF D cI cZ cP cF s) (hT : zT A s s.heap) {m0 : Nat} {qm : Nat → Nat} {q : Nat → Nat → Nat} {S : CST} {Sm : MST} (hJ : J S) (hM : MI Sm (cnP S)) (hR : FR1 S Sm) {H : Heap} {locs : List Loc} {cells slots : Nat} {ls : Array Slot} (h2 : two D A (cW cI cZ cP cF q S) (mW cI cZ m0 qm Sm) H) (hS : va_S A s.heap H locs) (hcs : cells ≤ 95 + 8 * cnP S + 3 * cnC S ∧ slots ≤ 323715 + 232 * cnP S + 7619 * cnC S) {j : Nat} (hj : 5 * j + 5 ≤ L) (hl : lv_has ls 4 [(3, .int (nI (5 * j))), (2, .ref m0), (1, .ref (q 0 0)), (0, .ref bs)]) (ih : ∀ (q : Nat → Nat → Nat) (S : CST) (Sm : MST) (H : Heap) (locs : List Loc) (cells slots : Nat) (ls : Array Slot), J S → MI Sm (cnP S) → FR1 S Sm → two D A (cW cI cZ cP cF q S) (mW cI cZ m0 qm Sm) H → va_S A s.heap H locs → (cells ≤ 95 + 8 * cnP S + 3 * cnC S ∧ slots ≤ 323715 + 232 * cnP S + 7619 * cnC S) → lv_has ls 4 [(3, .int (nI (5 * (j + 1)))), (2, .ref m0), (1, .ref (q 0 0)), (0, .ref bs)] → W p l e room_1 s m #[Value.ref bs] below meth c H locs cells slots (lw_Z below #[Value.ref bs] s) (F0 m 18 ls [])) : W p l e room_1 s m #[Value.ref bs] below meth c H locs cells slots (lw_Z below #[Value.ref bs] s) (F0 m 153 ls []) := by
  obtain ⟨hx, hb, hr, hml, hown, hts0, hX, hbl, hlocks, hgv⟩ := id C0
  have hts : ∀ w ∈ zw_law, w.before #[Value.ref bs] s = true := fun w h => hts0 w (zw_law_in w h)
  have hown : s.vm.findClass RL = some m.cls := hown
  have hK := hE.k
  have hcap := hJ.cap
  obtain ⟨hcP, hcC⟩ := id hcap
  obtain ⟨hcs1, hcs2⟩ := id hcs
  refine lv_aload_n hx hb dL_law_153 rfl (lv_at hl 2 rfl) ?_
  refine lv_aload_n hx hb dL_law_154 rfl (lv_at hl 3 rfl) ?_
  refine lv_iload_n hx hb dL_law_155 rfl (lv_at hl 0 rfl) ?_
  refine lv_iconst (v := 1) hx hb dL_law_156 (by decide) ?_
  refine lv_iadd hx hb dL_law_157 ?_
  have hin_1 : vp_in (nI (5 * j) + 1) L := by rw [show nI (5 * j) + 1 = nI (5 * j + 1) from nI_add _ 1]; exact vp_in_nI (by omega) (by omega)
  refine va_sld hx hb hX hbl hbA hS hin_1 dL_law_158 ?_
  refine lv_aload_n hx hb dL_law_159 rfl (lv_at hl 3 rfl) ?_
  refine lv_iload_n hx hb dL_law_160 rfl (lv_at hl 0 rfl) ?_
  refine lv_iconst (v := 2) hx hb dL_law_161 (by decide) ?_
  refine lv_iadd hx hb dL_law_162 ?_
  have hin_2 : vp_in (nI (5 * j) + 2) L := by rw [show nI (5 * j) + 2 = nI (5 * j + 2) from nI_add _ 2]; exact vp_in_nI (by omega) (by omega)
  refine va_sld hx hb hX hbl hbA hS hin_2 dL_law_163 ?_
  refine lv_aload_n hx hb dL_law_164 rfl (lv_at hl 3 rfl) ?_
  refine lv_iload_n hx hb dL_law_165 rfl (lv_at hl 0 rfl) ?_
  refine lv_iconst (v := 3) hx hb dL_law_166 (by decide) ?_
  refine lv_iadd hx hb dL_law_167 ?_
  have hin_3 : vp_in (nI (5 * j) + 3) L := by rw [show nI (5 * j) + 3 = nI (5 * j + 3) from nI_add _ 3]; exact vp_in_nI (by omega) (by omega)
  refine va_sld hx hb hX hbl hbA hS hin_3 dL_law_168 ?_
  obtain ⟨p_0, hp_0⟩ := cget_0 cI cZ cP cF q S
  have hFc := zm_free h2.2.2.1 hS hA
  refine va_calli (va_runV (As := [.int (xs (nI (5 * j) + 1 : Int32).toNatClampNeg), .int (xs (nI (5 * j) + 2 : Int32).toNatClampNeg), .int (xs (nI (5 * j) + 3 : Int32).toNatClampNeg)]) (rest := []) ⟨hx, hb, hml, hown, hts⟩ (zd_X11_write l D cI cZ cP cF q S (xs (nI (5 * j) + 1 : Int32).toNatClampNeg) (xs (nI (5 * j) + 2 : Int32).toNatClampNeg) (xs (nI (5 * j) + 3 : Int32).toNatClampNeg) H.size _ (zq_write hJ hM hR)) (cwV 3 hts zg_law_zd_X11_write rfl rfl rfl (by decide +kernel) ⟨Nat.le_of_ble_eq_true rfl, Nat.le_of_ble_eq_true rfl⟩) ⟨zCW, va_recv hK h2.1 (ci := 11) (q0 := p_0) rfl hp_0, fun U hU hW => ⟨rfl, by rw [hU], by rw [hU]; exact h2.1, hE.warm hW, h2.2.2.1.weaken (fun _ _ _ _ => trivial)⟩⟩ rfl rfl hl.1 rfl (lv_room (Nat.le_of_ble_eq_true rfl)) dL_law_169 ⟨by show cells + 0 ≤ 600000; omega, by show slots + 0 ≤ 7302250; omega⟩) hS (fun q _ h => hFc q h) hFc (fun r169 S' t H locs ht hvm h hB hz1 hk1 hS => ?_)
  obtain ⟨hP1, hD1, hN1⟩ := hB
  rw [ht] at hP1
  have h2 := two_l h2 hk1 hP1 hD1 hFc
  have hcs : cells ≤ 95 + 8 * cnP S' + 3 * cnC S' ∧ slots ≤ 323715 + 232 * cnP S' + 7619 * cnC S' := by rw [show cnP S' = cnP S from congrArg Prod.fst hN1, show cnC S' = cnC S from congrArg Prod.snd hN1]; exact hcs
  obtain ⟨hJ2, hw⟩ := h
  have hcap2 := hJ2.cap
  obtain ⟨hc1, hc2⟩ := hcap2
  refine lv_pop hx hb dL_law_172 rfl ?_
  refine lv_aload_n hx hb dL_law_173 rfl (lv_at hl 1 rfl) ?_
  refine lv_aload_n hx hb dL_law_174 rfl (lv_at hl 3 rfl) ?_
  refine lv_iload_n hx hb dL_law_175 rfl (lv_at hl 0 rfl) ?_
  refine lv_iconst (v := 1) hx hb dL_law_176 (by decide) ?_
  refine lv_iadd hx hb dL_law_177 ?_
  have hin_4 : vp_in (nI (5 * j) + 1) L := by rw [show nI (5 * j) + 1 = nI (5 * j + 1) from nI_add _ 1]; exact vp_in_nI (by omega) (by omega)
  refine va_sld hx hb hX hbl hbA hS hin_4 dL_law_178 ?_
  refine lv_aload_n hx hb dL_law_179 rfl (lv_at hl 3 rfl) ?_
  refine lv_iload_n hx hb dL_law_180 rfl (lv_at hl 0 rfl) ?_
  refine lv_iconst (v := 2) hx hb dL_law_181 (by decide) ?_
  refine lv_iadd hx hb dL_law_182 ?_
  have hin_5 : vp_in (nI (5 * j) + 2) L := by rw [show nI (5 * j) + 2 = nI (5 * j + 2) from nI_add _ 2]; exact vp_in_nI (by omega) (by omega)
  refine va_sld hx hb hX hbl hbA hS hin_5 dL_law_183 ?_
  refine lv_aload_n hx hb dL_law_184 rfl (lv_at hl 3 rfl) ?_
  refine lv_iload_n hx hb dL_law_185 rfl (lv_at hl 0 rfl) ?_
  refine lv_iconst (v := 3) hx hb dL_law_186 (by decide) ?_
  refine lv_iadd hx hb dL_law_187 ?_
  have hin_6 : vp_in (nI (5 * j) + 3) L := by rw [show nI (5 * j) + 3 = nI (5 * j + 3) from nI_add _ 3]; exact vp_in_nI (by omega) (by omega)
  refine va_sld hx hb hX hbl hbA hS hin_6 dL_law_188 ?_
  have hFc := zm_free h2.2.2.2.1 hS hA
  refine va_calli (va_runV (As := [.int (xs (nI (5 * j) + 1 : Int32).toNatClampNeg), .int (xs (nI (5 * j) + 2 : Int32).toNatClampNeg), .int (xs (nI (5 * j) + 3 : Int32).toNatClampNeg)]) (rest := []) ⟨hx, hb, hml, hown, hts⟩ (zd_X12_write l D cI cZ cP cF m0 qm Sm (xs (nI (5 * j) + 1 : Int32).toNatClampNeg) (xs (nI (5 * j) + 2 : Int32).toNatClampNeg) (xs (nI (5 * j) + 3 : Int32).toNatClampNeg) H.size _ hw) (cwV 3 hts zg_law_zd_X12_write rfl rfl rfl (by decide +kernel) ⟨Nat.le_of_ble_eq_true rfl, Nat.le_of_ble_eq_true rfl⟩) ⟨zBW, va_recv hK h2.2.1 (ci := 12) (q0 := 0) rfl rfl, fun U hU hW => ⟨rfl, by rw [hU], by rw [hU]; exact h2.2.1, hE.1.warm hW, h2.2.2.2.1.weaken (fun _ _ _ _ => trivial)⟩⟩ rfl rfl hl.1 rfl (lv_room (Nat.le_of_ble_eq_true rfl)) dL_law_189 ⟨by show cells + 0 ≤ 600000; omega, by show slots + 0 ≤ 7302250; omega⟩) hS (fun q _ h => hFc q h) hFc (fun r189 Sm' t H locs ht hvm h hB hz1 hk1 hS => ?_)
  obtain ⟨hP1, hD1⟩ := hB
  rw [ht] at hP1
  have h2 := two_r h2 hk1 hP1 hD1 hFc
  obtain ⟨hM2, hR2, hre⟩ := h
  refine lv_pop hx hb dL_law_192 rfl ?_
  refine lv_goto (tgt := 634) hx hb dL_law_193 (by decide) ?_
  refine lv_iinc (v := nI (5 * (j + 1))) (lv' := [(3, .int (nI (5 * (j + 1)))), (2, .ref m0), (1, .ref (q 0 0)), (0, .ref bs)]) hx hb dL_law_634 hl (k := 0) rfl (by rw [show 5 * (j + 1) = 5 * j + 5 by omega]; exact nI_add _ 5) (by decide) rfl (fun ls hl => ?_)
  refine lv_goto (tgt := 18) hx hb dL_law_637 (by decide) ?_
  exact ih q S' Sm' H locs _ _ ls hJ2 hM2 hR2 h2 hS hcs hl

set_option maxHeartbeats 4000000 in
set_option maxRecDepth 100000 in
theorem zl_2 {p : Program} {e : Env} {s : State} {m : MethodId} {below : List Frame} {meth : Method} {c : Code} (l : Launch) {bs L : Nat} {xs : Nat → Int32} (C0 : lw_At p s m meth c bs L xs) (hL : L ≤ 2560) {A : Nat → Prop} (hA : ∀ q : Nat, s.heap.size ≤ q → A q) (hbA : ¬ A bs) {D : va_G} {cI cZ cP cF : Nat} (hE : zF D cI cZ cP cF s) (hT : zT A s s.heap) {m0 : Nat} {qm : Nat → Nat} {q : Nat → Nat → Nat} {S : CST} {Sm : MST} (hJ : J S) (hM : MI Sm (cnP S)) (hR : FR1 S Sm) {H : Heap} {locs : List Loc} {cells slots : Nat} {ls : Array Slot} (h2 : two D A (cW cI cZ cP cF q S) (mW cI cZ m0 qm Sm) H) (hS : va_S A s.heap H locs) (hcs : cells ≤ 95 + 8 * cnP S + 3 * cnC S ∧ slots ≤ 323715 + 232 * cnP S + 7619 * cnC S) {j : Nat} (hj : 5 * j + 5 ≤ L) (hl : lv_has ls 4 [(3, .int (nI (5 * j))), (2, .ref m0), (1, .ref (q 0 0)), (0, .ref bs)]) (ih : ∀ (q : Nat → Nat → Nat) (S : CST) (Sm : MST) (H : Heap) (locs : List Loc) (cells slots : Nat) (ls : Array Slot), J S → MI Sm (cnP S) → FR1 S Sm → two D A (cW cI cZ cP cF q S) (mW cI cZ m0 qm Sm) H → va_S A s.heap H locs → (cells ≤ 95 + 8 * cnP S + 3 * cnC S ∧ slots ≤ 323715 + 232 * cnP S + 7619 * cnC S) → lv_has ls 4 [(3, .int (nI (5 * (j + 1)))), (2, .ref m0), (1, .ref (q 0 0)), (0, .ref bs)] → W p l e room_1 s m #[Value.ref bs] below meth c H locs cells slots (lw_Z below #[Value.ref bs] s) (F0 m 18 ls [])) : W p l e room_1 s m #[Value.ref bs] below meth c H locs cells slots (lw_Z below #[Value.ref bs] s) (F0 m 196 ls []) := by
  obtain ⟨hx, hb, hr, hml, hown, hts0, hX, hbl, hlocks, hgv⟩ := id C0
  have hts : ∀ w ∈ zw_law, w.before #[Value.ref bs] s = true := fun w h => hts0 w (zw_law_in w h)
  have hown : s.vm.findClass RL = some m.cls := hown
  have hK := hE.k
  have hcap := hJ.cap
  obtain ⟨hcP, hcC⟩ := id hcap
  obtain ⟨hcs1, hcs2⟩ := id hcs
  refine lv_aload_n hx hb dL_law_196 rfl (lv_at hl 2 rfl) ?_
  refine lv_aload_n hx hb dL_law_197 rfl (lv_at hl 3 rfl) ?_
  refine lv_iload_n hx hb dL_law_198 rfl (lv_at hl 0 rfl) ?_
  refine lv_iconst (v := 1) hx hb dL_law_199 (by decide) ?_
  refine lv_iadd hx hb dL_law_200 ?_
  have hin_1 : vp_in (nI (5 * j) + 1) L := by rw [show nI (5 * j) + 1 = nI (5 * j + 1) from nI_add _ 1]; exact vp_in_nI (by omega) (by omega)
  refine va_sld hx hb hX hbl hbA hS hin_1 dL_law_201 ?_
  obtain ⟨p_0, hp_0⟩ := cget_0 cI cZ cP cF q S
  have hFc := zm_free h2.2.2.1 hS hA
  refine xc_i (z_runV (As := [.int (xs (nI (5 * j) + 1 : Int32).toNatClampNeg)]) (rest := []) ⟨hx, hb, hml, hown, hts⟩ (zd_X11_look l D cI cZ cP cF q S (xs (nI (5 * j) + 1 : Int32).toNatClampNeg) H.size _ (zq_look hJ hM hR) hcap) (cwV 1 hts zg_law_zd_X11_look rfl rfl rfl (by decide +kernel) ⟨Nat.le_of_ble_eq_true rfl, Nat.le_of_ble_eq_true rfl⟩) ⟨zCWs, va_recv hK h2.1 (ci := 11) (q0 := p_0) rfl hp_0, fun U hU hW => ⟨rfl, by rw [hU], by rw [hU]; exact h2.1, hE.warm hW, h2.2.2.1.weaken (fun _ _ _ _ => trivial), zT_move hT hS (zNm_in h2.2.2.1) hW.alike hU⟩⟩ rfl rfl hl.1 rfl (lv_room (Nat.le_of_ble_eq_true rfl)) dL_law_202 ⟨by show cells + rmc S ≤ 600000; unfold rmc; omega, by show slots + rms S ≤ 7302250; unfold rms; omega⟩) hS (fun q _ h => hFc q h) hFc (fun r202 q' S' k n t H locs ht hvm h hB hz1 hk1 hS => ?_)
  obtain ⟨hP1, hD1, hq1, g1, g2, g3, g4, g5, g6⟩ := hB
  rw [ht] at hP1
  have h2 := two_l h2 hk1 hP1 hD1 hFc
  have hl : lv_has ls 4 [(3, .int (nI (5 * j))), (2, .ref m0), (1, .ref (q' 0 0)), (0, .ref bs)] := by rw [hq1 0 0 (cinS (by decide))]; exact hl
  have hcs : cells + k ≤ 95 + 8 * cnP S' + 3 * cnC S' ∧ slots + n ≤ 323715 + 232 * cnP S' + 7619 * cnC S' := ⟨by omega, by omega⟩
  obtain ⟨hJ2, hw⟩ := h
  have hcap2 := hJ2.cap
  obtain ⟨hc1, hc2⟩ := hcap2
  refine lv_pop hx hb dL_law_205 rfl ?_
  refine lv_aload_n hx hb dL_law_206 rfl (lv_at hl 1 rfl) ?_
  refine lv_aload_n hx hb dL_law_207 rfl (lv_at hl 3 rfl) ?_
  refine lv_iload_n hx hb dL_law_208 rfl (lv_at hl 0 rfl) ?_
  refine lv_iconst (v := 1) hx hb dL_law_209 (by decide) ?_
  refine lv_iadd hx hb dL_law_210 ?_
  have hin_2 : vp_in (nI (5 * j) + 1) L := by rw [show nI (5 * j) + 1 = nI (5 * j + 1) from nI_add _ 1]; exact vp_in_nI (by omega) (by omega)
  refine va_sld hx hb hX hbl hbA hS hin_2 dL_law_211 ?_
  have hFc := zm_free h2.2.2.2.1 hS hA
  refine va_calli (va_runV (As := [.int (xs (nI (5 * j) + 1 : Int32).toNatClampNeg)]) (rest := []) ⟨hx, hb, hml, hown, hts⟩ (zd_X12_look l D cI cZ cP cF m0 qm Sm (xs (nI (5 * j) + 1 : Int32).toNatClampNeg) H.size _ hw) (cwV 1 hts zg_law_zd_X12_look rfl rfl rfl (by decide +kernel) ⟨Nat.le_of_ble_eq_true rfl, Nat.le_of_ble_eq_true rfl⟩) ⟨zBW, va_recv hK h2.2.1 (ci := 12) (q0 := 0) rfl rfl, fun U hU hW => ⟨rfl, by rw [hU], by rw [hU]; exact h2.2.1, hE.1.warm hW, h2.2.2.2.1.weaken (fun _ _ _ _ => trivial)⟩⟩ rfl rfl hl.1 rfl (lv_room (Nat.le_of_ble_eq_true rfl)) dL_law_212 ⟨by show cells + k + 0 ≤ 600000; omega, by show slots + n + 0 ≤ 7302250; omega⟩) hS (fun q _ h => hFc q h) hFc (fun r212 Sm' t H locs ht hvm h hB hz1 hk1 hS => ?_)
  obtain ⟨hP1, hD1⟩ := hB
  rw [ht] at hP1
  have h2 := two_r h2 hk1 hP1 hD1 hFc
  obtain ⟨hM2, hR2, hre⟩ := h
  refine lv_pop hx hb dL_law_215 rfl ?_
  refine lv_goto (tgt := 634) hx hb dL_law_216 (by decide) ?_
  refine lv_iinc (v := nI (5 * (j + 1))) (lv' := [(3, .int (nI (5 * (j + 1)))), (2, .ref m0), (1, .ref (q' 0 0)), (0, .ref bs)]) hx hb dL_law_634 hl (k := 0) rfl (by rw [show 5 * (j + 1) = 5 * j + 5 by omega]; exact nI_add _ 5) (by decide) rfl (fun ls hl => ?_)
  refine lv_goto (tgt := 18) hx hb dL_law_637 (by decide) ?_
  exact ih q' S' Sm' H locs _ _ ls hJ2 hM2 hR2 h2 hS hcs hl

set_option maxHeartbeats 4000000 in
set_option maxRecDepth 100000 in
theorem zl_3 {p : Program} {e : Env} {s : State} {m : MethodId} {below : List Frame} {meth : Method} {c : Code} (l : Launch) {bs L : Nat} {xs : Nat → Int32} (C0 : lw_At p s m meth c bs L xs) (hL : L ≤ 2560) {A : Nat → Prop} (hA : ∀ q : Nat, s.heap.size ≤ q → A q) (hbA : ¬ A bs) {D : va_G} {cI cZ cP cF : Nat} (hE : zF D cI cZ cP cF s) (hT : zT A s s.heap) {m0 : Nat} {qm : Nat → Nat} {q : Nat → Nat → Nat} {S : CST} {Sm : MST} (hJ : J S) (hM : MI Sm (cnP S)) (hR : FR1 S Sm) {H : Heap} {locs : List Loc} {cells slots : Nat} {ls : Array Slot} (h2 : two D A (cW cI cZ cP cF q S) (mW cI cZ m0 qm Sm) H) (hS : va_S A s.heap H locs) (hcs : cells ≤ 95 + 8 * cnP S + 3 * cnC S ∧ slots ≤ 323715 + 232 * cnP S + 7619 * cnC S) {j : Nat} (hj : 5 * j + 5 ≤ L) (hl : lv_has ls 4 [(3, .int (nI (5 * j))), (2, .ref m0), (1, .ref (q 0 0)), (0, .ref bs)]) (ih : ∀ (q : Nat → Nat → Nat) (S : CST) (Sm : MST) (H : Heap) (locs : List Loc) (cells slots : Nat) (ls : Array Slot), J S → MI Sm (cnP S) → FR1 S Sm → two D A (cW cI cZ cP cF q S) (mW cI cZ m0 qm Sm) H → va_S A s.heap H locs → (cells ≤ 95 + 8 * cnP S + 3 * cnC S ∧ slots ≤ 323715 + 232 * cnP S + 7619 * cnC S) → lv_has ls 4 [(3, .int (nI (5 * (j + 1)))), (2, .ref m0), (1, .ref (q 0 0)), (0, .ref bs)] → W p l e room_1 s m #[Value.ref bs] below meth c H locs cells slots (lw_Z below #[Value.ref bs] s) (F0 m 18 ls [])) : W p l e room_1 s m #[Value.ref bs] below meth c H locs cells slots (lw_Z below #[Value.ref bs] s) (F0 m 219 ls []) := by
  obtain ⟨hx, hb, hr, hml, hown, hts0, hX, hbl, hlocks, hgv⟩ := id C0
  have hts : ∀ w ∈ zw_law, w.before #[Value.ref bs] s = true := fun w h => hts0 w (zw_law_in w h)
  have hown : s.vm.findClass RL = some m.cls := hown
  have hK := hE.k
  have hcap := hJ.cap
  obtain ⟨hcP, hcC⟩ := id hcap
  obtain ⟨hcs1, hcs2⟩ := id hcs
  refine lv_aload_n hx hb dL_law_219 rfl (lv_at hl 2 rfl) ?_
  obtain ⟨p_0, hp_0⟩ := cget_0 cI cZ cP cF q S
  refine vp_callSi (va_Run.run (va_runV (As := []) (rest := []) ⟨hx, hb, hml, hown, hts⟩ (zd_X11_fault l D cI cZ cP cF q S  _ (jm_fault (Post := fun _ => True) (fun _ => trivial))) (cwV 0 hts zg_law_zd_X11_fault rfl rfl rfl (by decide +kernel) ⟨Nat.le_of_ble_eq_true rfl, Nat.le_of_ble_eq_true rfl⟩) ⟨zCR, va_recv hK h2.1 (ci := 11) (q0 := p_0) rfl hp_0, fun U hU hW => ⟨rfl, by rw [hU]; exact h2.1, hE.warm hW⟩⟩ rfl rfl hl.1 rfl (lv_room (Nat.le_of_ble_eq_true rfl)) dL_law_220 ⟨by show cells + 0 ≤ 600000; omega, by show slots + 0 ≤ 7302250; omega⟩)) (fun r220 _ => ?_)
  refine lv_pop hx hb dL_law_223 rfl ?_
  refine lv_aload_n hx hb dL_law_224 rfl (lv_at hl 1 rfl) ?_
  refine vp_callSi (va_Run.run (va_runV (As := []) (rest := []) ⟨hx, hb, hml, hown, hts⟩ (zd_X12_fault l D cI cZ cP cF m0 qm Sm  _ (mi_fault (Post := fun _ => True) (fun _ => trivial))) (cwV 0 hts zg_law_zd_X12_fault rfl rfl rfl (by decide +kernel) ⟨Nat.le_of_ble_eq_true rfl, Nat.le_of_ble_eq_true rfl⟩) ⟨zBR, va_recv hK h2.2.1 (ci := 12) (q0 := 0) rfl rfl, fun U hU hW => ⟨rfl, by rw [hU]; exact h2.2.1, hE.1.warm hW⟩⟩ rfl rfl hl.1 rfl (lv_room (Nat.le_of_ble_eq_true rfl)) dL_law_225 ⟨by show cells + 0 ≤ 600000; omega, by show slots + 0 ≤ 7302250; omega⟩)) (fun r225 _ => ?_)
  have hM2 := hM
  have hR2 := hR
  refine lv_pop hx hb dL_law_228 rfl ?_
  refine lv_goto (tgt := 634) hx hb dL_law_229 (by decide) ?_
  refine lv_iinc (v := nI (5 * (j + 1))) (lv' := [(3, .int (nI (5 * (j + 1)))), (2, .ref m0), (1, .ref (q 0 0)), (0, .ref bs)]) hx hb dL_law_634 hl (k := 0) rfl (by rw [show 5 * (j + 1) = 5 * j + 5 by omega]; exact nI_add _ 5) (by decide) rfl (fun ls hl => ?_)
  refine lv_goto (tgt := 18) hx hb dL_law_637 (by decide) ?_
  exact ih q S Sm H locs _ _ ls hJ hM2 hR2 h2 hS hcs hl

set_option maxHeartbeats 4000000 in
set_option maxRecDepth 100000 in
theorem zl_4 {p : Program} {e : Env} {s : State} {m : MethodId} {below : List Frame} {meth : Method} {c : Code} (l : Launch) {bs L : Nat} {xs : Nat → Int32} (C0 : lw_At p s m meth c bs L xs) (hL : L ≤ 2560) {A : Nat → Prop} (hA : ∀ q : Nat, s.heap.size ≤ q → A q) (hbA : ¬ A bs) {D : va_G} {cI cZ cP cF : Nat} (hE : zF D cI cZ cP cF s) (hT : zT A s s.heap) {m0 : Nat} {qm : Nat → Nat} {q : Nat → Nat → Nat} {S : CST} {Sm : MST} (hJ : J S) (hM : MI Sm (cnP S)) (hR : FR1 S Sm) {H : Heap} {locs : List Loc} {cells slots : Nat} {ls : Array Slot} (h2 : two D A (cW cI cZ cP cF q S) (mW cI cZ m0 qm Sm) H) (hS : va_S A s.heap H locs) (hcs : cells ≤ 95 + 8 * cnP S + 3 * cnC S ∧ slots ≤ 323715 + 232 * cnP S + 7619 * cnC S) {j : Nat} (hj : 5 * j + 5 ≤ L) (hl : lv_has ls 4 [(3, .int (nI (5 * j))), (2, .ref m0), (1, .ref (q 0 0)), (0, .ref bs)]) (ih : ∀ (q : Nat → Nat → Nat) (S : CST) (Sm : MST) (H : Heap) (locs : List Loc) (cells slots : Nat) (ls : Array Slot), J S → MI Sm (cnP S) → FR1 S Sm → two D A (cW cI cZ cP cF q S) (mW cI cZ m0 qm Sm) H → va_S A s.heap H locs → (cells ≤ 95 + 8 * cnP S + 3 * cnC S ∧ slots ≤ 323715 + 232 * cnP S + 7619 * cnC S) → lv_has ls 4 [(3, .int (nI (5 * (j + 1)))), (2, .ref m0), (1, .ref (q 0 0)), (0, .ref bs)] → W p l e room_1 s m #[Value.ref bs] below meth c H locs cells slots (lw_Z below #[Value.ref bs] s) (F0 m 18 ls [])) : W p l e room_1 s m #[Value.ref bs] below meth c H locs cells slots (lw_Z below #[Value.ref bs] s) (F0 m 232 ls []) := by
  obtain ⟨hx, hb, hr, hml, hown, hts0, hX, hbl, hlocks, hgv⟩ := id C0
  have hts : ∀ w ∈ zw_law, w.before #[Value.ref bs] s = true := fun w h => hts0 w (zw_law_in w h)
  have hown : s.vm.findClass RL = some m.cls := hown
  have hK := hE.k
  have hcap := hJ.cap
  obtain ⟨hcP, hcC⟩ := id hcap
  obtain ⟨hcs1, hcs2⟩ := id hcs
  refine lv_aload_n hx hb dL_law_232 rfl (lv_at hl 2 rfl) ?_
  refine lv_aload_n hx hb dL_law_233 rfl (lv_at hl 3 rfl) ?_
  refine lv_iload_n hx hb dL_law_234 rfl (lv_at hl 0 rfl) ?_
  refine lv_iconst (v := 1) hx hb dL_law_235 (by decide) ?_
  refine lv_iadd hx hb dL_law_236 ?_
  have hin_1 : vp_in (nI (5 * j) + 1) L := by rw [show nI (5 * j) + 1 = nI (5 * j + 1) from nI_add _ 1]; exact vp_in_nI (by omega) (by omega)
  refine va_sld hx hb hX hbl hbA hS hin_1 dL_law_237 ?_
  refine lv_aload_n hx hb dL_law_238 rfl (lv_at hl 3 rfl) ?_
  refine lv_iload_n hx hb dL_law_239 rfl (lv_at hl 0 rfl) ?_
  refine lv_iconst (v := 2) hx hb dL_law_240 (by decide) ?_
  refine lv_iadd hx hb dL_law_241 ?_
  have hin_2 : vp_in (nI (5 * j) + 2) L := by rw [show nI (5 * j) + 2 = nI (5 * j + 2) from nI_add _ 2]; exact vp_in_nI (by omega) (by omega)
  refine va_sld hx hb hX hbl hbA hS hin_2 dL_law_242 ?_
  obtain ⟨p_0, hp_0⟩ := cget_0 cI cZ cP cF q S
  have hFc := zm_free h2.2.2.1 hS hA
  refine va_calli (va_runV (As := [.int (xs (nI (5 * j) + 1 : Int32).toNatClampNeg), .int (xs (nI (5 * j) + 2 : Int32).toNatClampNeg)]) (rest := []) ⟨hx, hb, hml, hown, hts⟩ (zd_X11_keep l D cI cZ cP cF q S (xs (nI (5 * j) + 1 : Int32).toNatClampNeg) (xs (nI (5 * j) + 2 : Int32).toNatClampNeg) H.size _ (zq_keep hJ hM hR)) (cwV 2 hts zg_law_zd_X11_keep rfl rfl rfl (by decide +kernel) ⟨Nat.le_of_ble_eq_true rfl, Nat.le_of_ble_eq_true rfl⟩) ⟨zCW, va_recv hK h2.1 (ci := 11) (q0 := p_0) rfl hp_0, fun U hU hW => ⟨rfl, by rw [hU], by rw [hU]; exact h2.1, hE.warm hW, h2.2.2.1.weaken (fun _ _ _ _ => trivial)⟩⟩ rfl rfl hl.1 rfl (lv_room (Nat.le_of_ble_eq_true rfl)) dL_law_243 ⟨by show cells + 0 ≤ 600000; omega, by show slots + 0 ≤ 7302250; omega⟩) hS (fun q _ h => hFc q h) hFc (fun r243 S' t H locs ht hvm h hB hz1 hk1 hS => ?_)
  obtain ⟨hP1, hD1, hN1⟩ := hB
  rw [ht] at hP1
  have h2 := two_l h2 hk1 hP1 hD1 hFc
  have hcs : cells ≤ 95 + 8 * cnP S' + 3 * cnC S' ∧ slots ≤ 323715 + 232 * cnP S' + 7619 * cnC S' := by rw [show cnP S' = cnP S from congrArg Prod.fst hN1, show cnC S' = cnC S from congrArg Prod.snd hN1]; exact hcs
  obtain ⟨hJ2, hw⟩ := h
  have hcap2 := hJ2.cap
  obtain ⟨hc1, hc2⟩ := hcap2
  refine lv_pop hx hb dL_law_246 rfl ?_
  refine lv_aload_n hx hb dL_law_247 rfl (lv_at hl 1 rfl) ?_
  refine lv_aload_n hx hb dL_law_248 rfl (lv_at hl 3 rfl) ?_
  refine lv_iload_n hx hb dL_law_249 rfl (lv_at hl 0 rfl) ?_
  refine lv_iconst (v := 1) hx hb dL_law_250 (by decide) ?_
  refine lv_iadd hx hb dL_law_251 ?_
  have hin_3 : vp_in (nI (5 * j) + 1) L := by rw [show nI (5 * j) + 1 = nI (5 * j + 1) from nI_add _ 1]; exact vp_in_nI (by omega) (by omega)
  refine va_sld hx hb hX hbl hbA hS hin_3 dL_law_252 ?_
  refine lv_aload_n hx hb dL_law_253 rfl (lv_at hl 3 rfl) ?_
  refine lv_iload_n hx hb dL_law_254 rfl (lv_at hl 0 rfl) ?_
  refine lv_iconst (v := 2) hx hb dL_law_255 (by decide) ?_
  refine lv_iadd hx hb dL_law_256 ?_
  have hin_4 : vp_in (nI (5 * j) + 2) L := by rw [show nI (5 * j) + 2 = nI (5 * j + 2) from nI_add _ 2]; exact vp_in_nI (by omega) (by omega)
  refine va_sld hx hb hX hbl hbA hS hin_4 dL_law_257 ?_
  have hFc := zm_free h2.2.2.2.1 hS hA
  refine va_calli (va_runV (As := [.int (xs (nI (5 * j) + 1 : Int32).toNatClampNeg), .int (xs (nI (5 * j) + 2 : Int32).toNatClampNeg)]) (rest := []) ⟨hx, hb, hml, hown, hts⟩ (zd_X12_keep l D cI cZ cP cF m0 qm Sm (xs (nI (5 * j) + 1 : Int32).toNatClampNeg) (xs (nI (5 * j) + 2 : Int32).toNatClampNeg) H.size _ hw) (cwV 2 hts zg_law_zd_X12_keep rfl rfl rfl (by decide +kernel) ⟨Nat.le_of_ble_eq_true rfl, Nat.le_of_ble_eq_true rfl⟩) ⟨zBW, va_recv hK h2.2.1 (ci := 12) (q0 := 0) rfl rfl, fun U hU hW => ⟨rfl, by rw [hU], by rw [hU]; exact h2.2.1, hE.1.warm hW, h2.2.2.2.1.weaken (fun _ _ _ _ => trivial)⟩⟩ rfl rfl hl.1 rfl (lv_room (Nat.le_of_ble_eq_true rfl)) dL_law_258 ⟨by show cells + 0 ≤ 600000; omega, by show slots + 0 ≤ 7302250; omega⟩) hS (fun q _ h => hFc q h) hFc (fun r258 Sm' t H locs ht hvm h hB hz1 hk1 hS => ?_)
  obtain ⟨hP1, hD1⟩ := hB
  rw [ht] at hP1
  have h2 := two_r h2 hk1 hP1 hD1 hFc
  obtain ⟨hM2, hR2, hre⟩ := h
  refine lv_pop hx hb dL_law_261 rfl ?_
  refine lv_goto (tgt := 634) hx hb dL_law_262 (by decide) ?_
  refine lv_iinc (v := nI (5 * (j + 1))) (lv' := [(3, .int (nI (5 * (j + 1)))), (2, .ref m0), (1, .ref (q 0 0)), (0, .ref bs)]) hx hb dL_law_634 hl (k := 0) rfl (by rw [show 5 * (j + 1) = 5 * j + 5 by omega]; exact nI_add _ 5) (by decide) rfl (fun ls hl => ?_)
  refine lv_goto (tgt := 18) hx hb dL_law_637 (by decide) ?_
  exact ih q S' Sm' H locs _ _ ls hJ2 hM2 hR2 h2 hS hcs hl

set_option maxHeartbeats 4000000 in
set_option maxRecDepth 100000 in
theorem zl_5 {p : Program} {e : Env} {s : State} {m : MethodId} {below : List Frame} {meth : Method} {c : Code} (l : Launch) {bs L : Nat} {xs : Nat → Int32} (C0 : lw_At p s m meth c bs L xs) (hL : L ≤ 2560) {A : Nat → Prop} (hA : ∀ q : Nat, s.heap.size ≤ q → A q) (hbA : ¬ A bs) {D : va_G} {cI cZ cP cF : Nat} (hE : zF D cI cZ cP cF s) (hT : zT A s s.heap) {m0 : Nat} {qm : Nat → Nat} {q : Nat → Nat → Nat} {S : CST} {Sm : MST} (hJ : J S) (hM : MI Sm (cnP S)) (hR : FR1 S Sm) {H : Heap} {locs : List Loc} {cells slots : Nat} {ls : Array Slot} (h2 : two D A (cW cI cZ cP cF q S) (mW cI cZ m0 qm Sm) H) (hS : va_S A s.heap H locs) (hcs : cells ≤ 95 + 8 * cnP S + 3 * cnC S ∧ slots ≤ 323715 + 232 * cnP S + 7619 * cnC S) {j : Nat} (hj : 5 * j + 5 ≤ L) (hl : lv_has ls 4 [(3, .int (nI (5 * j))), (2, .ref m0), (1, .ref (q 0 0)), (0, .ref bs)]) (ih : ∀ (q : Nat → Nat → Nat) (S : CST) (Sm : MST) (H : Heap) (locs : List Loc) (cells slots : Nat) (ls : Array Slot), J S → MI Sm (cnP S) → FR1 S Sm → two D A (cW cI cZ cP cF q S) (mW cI cZ m0 qm Sm) H → va_S A s.heap H locs → (cells ≤ 95 + 8 * cnP S + 3 * cnC S ∧ slots ≤ 323715 + 232 * cnP S + 7619 * cnC S) → lv_has ls 4 [(3, .int (nI (5 * (j + 1)))), (2, .ref m0), (1, .ref (q 0 0)), (0, .ref bs)] → W p l e room_1 s m #[Value.ref bs] below meth c H locs cells slots (lw_Z below #[Value.ref bs] s) (F0 m 18 ls [])) : W p l e room_1 s m #[Value.ref bs] below meth c H locs cells slots (lw_Z below #[Value.ref bs] s) (F0 m 265 ls []) := by
  obtain ⟨hx, hb, hr, hml, hown, hts0, hX, hbl, hlocks, hgv⟩ := id C0
  have hts : ∀ w ∈ zw_law, w.before #[Value.ref bs] s = true := fun w h => hts0 w (zw_law_in w h)
  have hown : s.vm.findClass RL = some m.cls := hown
  have hK := hE.k
  have hcap := hJ.cap
  obtain ⟨hcP, hcC⟩ := id hcap
  obtain ⟨hcs1, hcs2⟩ := id hcs
  refine lv_aload_n hx hb dL_law_265 rfl (lv_at hl 2 rfl) ?_
  refine lv_aload_n hx hb dL_law_266 rfl (lv_at hl 3 rfl) ?_
  refine lv_iload_n hx hb dL_law_267 rfl (lv_at hl 0 rfl) ?_
  refine lv_iconst (v := 1) hx hb dL_law_268 (by decide) ?_
  refine lv_iadd hx hb dL_law_269 ?_
  have hin_1 : vp_in (nI (5 * j) + 1) L := by rw [show nI (5 * j) + 1 = nI (5 * j + 1) from nI_add _ 1]; exact vp_in_nI (by omega) (by omega)
  refine va_sld hx hb hX hbl hbA hS hin_1 dL_law_270 ?_
  obtain ⟨p_0, hp_0⟩ := cget_0 cI cZ cP cF q S
  refine vp_callSi (va_Run.run (va_runV (As := [.int (xs (nI (5 * j) + 1 : Int32).toNatClampNeg)]) (rest := []) ⟨hx, hb, hml, hown, hts⟩ (zd_X11_field l D cI cZ cP cF q S (xs (nI (5 * j) + 1 : Int32).toNatClampNeg) _ (jm_field (Post := fun _ => True) (fun _ => trivial))) (cwV 1 hts zg_law_zd_X11_field rfl rfl rfl (by decide +kernel) ⟨Nat.le_of_ble_eq_true rfl, Nat.le_of_ble_eq_true rfl⟩) ⟨zCR, va_recv hK h2.1 (ci := 11) (q0 := p_0) rfl hp_0, fun U hU hW => ⟨rfl, by rw [hU]; exact h2.1, hE.warm hW⟩⟩ rfl rfl hl.1 rfl (lv_room (Nat.le_of_ble_eq_true rfl)) dL_law_271 ⟨by show cells + 0 ≤ 600000; omega, by show slots + 0 ≤ 7302250; omega⟩)) (fun r271 _ => ?_)
  refine lv_pop hx hb dL_law_274 rfl ?_
  refine lv_aload_n hx hb dL_law_275 rfl (lv_at hl 1 rfl) ?_
  refine lv_aload_n hx hb dL_law_276 rfl (lv_at hl 3 rfl) ?_
  refine lv_iload_n hx hb dL_law_277 rfl (lv_at hl 0 rfl) ?_
  refine lv_iconst (v := 1) hx hb dL_law_278 (by decide) ?_
  refine lv_iadd hx hb dL_law_279 ?_
  have hin_2 : vp_in (nI (5 * j) + 1) L := by rw [show nI (5 * j) + 1 = nI (5 * j + 1) from nI_add _ 1]; exact vp_in_nI (by omega) (by omega)
  refine va_sld hx hb hX hbl hbA hS hin_2 dL_law_280 ?_
  refine vp_callSi (va_Run.run (va_runV (As := [.int (xs (nI (5 * j) + 1 : Int32).toNatClampNeg)]) (rest := []) ⟨hx, hb, hml, hown, hts⟩ (zd_X12_field l D cI cZ cP cF m0 qm Sm (xs (nI (5 * j) + 1 : Int32).toNatClampNeg) _ (mi_field (Post := fun _ => True) (fun _ => trivial))) (cwV 1 hts zg_law_zd_X12_field rfl rfl rfl (by decide +kernel) ⟨Nat.le_of_ble_eq_true rfl, Nat.le_of_ble_eq_true rfl⟩) ⟨zBR, va_recv hK h2.2.1 (ci := 12) (q0 := 0) rfl rfl, fun U hU hW => ⟨rfl, by rw [hU]; exact h2.2.1, hE.1.warm hW⟩⟩ rfl rfl hl.1 rfl (lv_room (Nat.le_of_ble_eq_true rfl)) dL_law_281 ⟨by show cells + 0 ≤ 600000; omega, by show slots + 0 ≤ 7302250; omega⟩)) (fun r281 _ => ?_)
  have hM2 := hM
  have hR2 := hR
  refine lv_pop hx hb dL_law_284 rfl ?_
  refine lv_goto (tgt := 634) hx hb dL_law_285 (by decide) ?_
  refine lv_iinc (v := nI (5 * (j + 1))) (lv' := [(3, .int (nI (5 * (j + 1)))), (2, .ref m0), (1, .ref (q 0 0)), (0, .ref bs)]) hx hb dL_law_634 hl (k := 0) rfl (by rw [show 5 * (j + 1) = 5 * j + 5 by omega]; exact nI_add _ 5) (by decide) rfl (fun ls hl => ?_)
  refine lv_goto (tgt := 18) hx hb dL_law_637 (by decide) ?_
  exact ih q S Sm H locs _ _ ls hJ hM2 hR2 h2 hS hcs hl

set_option maxHeartbeats 4000000 in
set_option maxRecDepth 100000 in
theorem zl_6 {p : Program} {e : Env} {s : State} {m : MethodId} {below : List Frame} {meth : Method} {c : Code} (l : Launch) {bs L : Nat} {xs : Nat → Int32} (C0 : lw_At p s m meth c bs L xs) (hL : L ≤ 2560) {A : Nat → Prop} (hA : ∀ q : Nat, s.heap.size ≤ q → A q) (hbA : ¬ A bs) {D : va_G} {cI cZ cP cF : Nat} (hE : zF D cI cZ cP cF s) (hT : zT A s s.heap) {m0 : Nat} {qm : Nat → Nat} {q : Nat → Nat → Nat} {S : CST} {Sm : MST} (hJ : J S) (hM : MI Sm (cnP S)) (hR : FR1 S Sm) {H : Heap} {locs : List Loc} {cells slots : Nat} {ls : Array Slot} (h2 : two D A (cW cI cZ cP cF q S) (mW cI cZ m0 qm Sm) H) (hS : va_S A s.heap H locs) (hcs : cells ≤ 95 + 8 * cnP S + 3 * cnC S ∧ slots ≤ 323715 + 232 * cnP S + 7619 * cnC S) {j : Nat} (hj : 5 * j + 5 ≤ L) (hl : lv_has ls 4 [(3, .int (nI (5 * j))), (2, .ref m0), (1, .ref (q 0 0)), (0, .ref bs)]) (ih : ∀ (q : Nat → Nat → Nat) (S : CST) (Sm : MST) (H : Heap) (locs : List Loc) (cells slots : Nat) (ls : Array Slot), J S → MI Sm (cnP S) → FR1 S Sm → two D A (cW cI cZ cP cF q S) (mW cI cZ m0 qm Sm) H → va_S A s.heap H locs → (cells ≤ 95 + 8 * cnP S + 3 * cnC S ∧ slots ≤ 323715 + 232 * cnP S + 7619 * cnC S) → lv_has ls 4 [(3, .int (nI (5 * (j + 1)))), (2, .ref m0), (1, .ref (q 0 0)), (0, .ref bs)] → W p l e room_1 s m #[Value.ref bs] below meth c H locs cells slots (lw_Z below #[Value.ref bs] s) (F0 m 18 ls [])) : W p l e room_1 s m #[Value.ref bs] below meth c H locs cells slots (lw_Z below #[Value.ref bs] s) (F0 m 288 ls []) := by
  obtain ⟨hx, hb, hr, hml, hown, hts0, hX, hbl, hlocks, hgv⟩ := id C0
  have hts : ∀ w ∈ zw_law, w.before #[Value.ref bs] s = true := fun w h => hts0 w (zw_law_in w h)
  have hown : s.vm.findClass RL = some m.cls := hown
  have hK := hE.k
  have hcap := hJ.cap
  obtain ⟨hcP, hcC⟩ := id hcap
  obtain ⟨hcs1, hcs2⟩ := id hcs
  refine lv_aload_n hx hb dL_law_288 rfl (lv_at hl 2 rfl) ?_
  refine lv_aload_n hx hb dL_law_289 rfl (lv_at hl 3 rfl) ?_
  refine lv_iload_n hx hb dL_law_290 rfl (lv_at hl 0 rfl) ?_
  refine lv_iconst (v := 1) hx hb dL_law_291 (by decide) ?_
  refine lv_iadd hx hb dL_law_292 ?_
  have hin_1 : vp_in (nI (5 * j) + 1) L := by rw [show nI (5 * j) + 1 = nI (5 * j + 1) from nI_add _ 1]; exact vp_in_nI (by omega) (by omega)
  refine va_sld hx hb hX hbl hbA hS hin_1 dL_law_293 ?_
  obtain ⟨p_0, hp_0⟩ := cget_0 cI cZ cP cF q S
  have hFc := zm_free h2.2.2.1 hS hA
  refine va_calli (va_runV (As := [.int (xs (nI (5 * j) + 1 : Int32).toNatClampNeg)]) (rest := []) ⟨hx, hb, hml, hown, hts⟩ (zd_X11_lose l D cI cZ cP cF q S (xs (nI (5 * j) + 1 : Int32).toNatClampNeg) H.size _ (zq_lose hJ hM hR)) (cwV 1 hts zg_law_zd_X11_lose rfl rfl rfl (by decide +kernel) ⟨Nat.le_of_ble_eq_true rfl, Nat.le_of_ble_eq_true rfl⟩) ⟨zCW, va_recv hK h2.1 (ci := 11) (q0 := p_0) rfl hp_0, fun U hU hW => ⟨rfl, by rw [hU], by rw [hU]; exact h2.1, hE.warm hW, h2.2.2.1.weaken (fun _ _ _ _ => trivial)⟩⟩ rfl rfl hl.1 rfl (lv_room (Nat.le_of_ble_eq_true rfl)) dL_law_294 ⟨by show cells + 0 ≤ 600000; omega, by show slots + 0 ≤ 7302250; omega⟩) hS (fun q _ h => hFc q h) hFc (fun r294 S' t H locs ht hvm h hB hz1 hk1 hS => ?_)
  obtain ⟨hP1, hD1, hN1⟩ := hB
  rw [ht] at hP1
  have h2 := two_l h2 hk1 hP1 hD1 hFc
  have hcs : cells ≤ 95 + 8 * cnP S' + 3 * cnC S' ∧ slots ≤ 323715 + 232 * cnP S' + 7619 * cnC S' := by rw [show cnP S' = cnP S from congrArg Prod.fst hN1, show cnC S' = cnC S from congrArg Prod.snd hN1]; exact hcs
  obtain ⟨hJ2, hw⟩ := h
  have hcap2 := hJ2.cap
  obtain ⟨hc1, hc2⟩ := hcap2
  refine lv_pop hx hb dL_law_297 rfl ?_
  refine lv_aload_n hx hb dL_law_298 rfl (lv_at hl 1 rfl) ?_
  refine lv_aload_n hx hb dL_law_299 rfl (lv_at hl 3 rfl) ?_
  refine lv_iload_n hx hb dL_law_300 rfl (lv_at hl 0 rfl) ?_
  refine lv_iconst (v := 1) hx hb dL_law_301 (by decide) ?_
  refine lv_iadd hx hb dL_law_302 ?_
  have hin_2 : vp_in (nI (5 * j) + 1) L := by rw [show nI (5 * j) + 1 = nI (5 * j + 1) from nI_add _ 1]; exact vp_in_nI (by omega) (by omega)
  refine va_sld hx hb hX hbl hbA hS hin_2 dL_law_303 ?_
  have hFc := zm_free h2.2.2.2.1 hS hA
  refine va_calli (va_runV (As := [.int (xs (nI (5 * j) + 1 : Int32).toNatClampNeg)]) (rest := []) ⟨hx, hb, hml, hown, hts⟩ (zd_X12_lose l D cI cZ cP cF m0 qm Sm (xs (nI (5 * j) + 1 : Int32).toNatClampNeg) H.size _ hw) (cwV 1 hts zg_law_zd_X12_lose rfl rfl rfl (by decide +kernel) ⟨Nat.le_of_ble_eq_true rfl, Nat.le_of_ble_eq_true rfl⟩) ⟨zBW, va_recv hK h2.2.1 (ci := 12) (q0 := 0) rfl rfl, fun U hU hW => ⟨rfl, by rw [hU], by rw [hU]; exact h2.2.1, hE.1.warm hW, h2.2.2.2.1.weaken (fun _ _ _ _ => trivial)⟩⟩ rfl rfl hl.1 rfl (lv_room (Nat.le_of_ble_eq_true rfl)) dL_law_304 ⟨by show cells + 0 ≤ 600000; omega, by show slots + 0 ≤ 7302250; omega⟩) hS (fun q _ h => hFc q h) hFc (fun r304 Sm' t H locs ht hvm h hB hz1 hk1 hS => ?_)
  obtain ⟨hP1, hD1⟩ := hB
  rw [ht] at hP1
  have h2 := two_r h2 hk1 hP1 hD1 hFc
  obtain ⟨hM2, hR2, hre⟩ := h
  refine lv_pop hx hb dL_law_307 rfl ?_
  refine lv_goto (tgt := 634) hx hb dL_law_308 (by decide) ?_
  refine lv_iinc (v := nI (5 * (j + 1))) (lv' := [(3, .int (nI (5 * (j + 1)))), (2, .ref m0), (1, .ref (q 0 0)), (0, .ref bs)]) hx hb dL_law_634 hl (k := 0) rfl (by rw [show 5 * (j + 1) = 5 * j + 5 by omega]; exact nI_add _ 5) (by decide) rfl (fun ls hl => ?_)
  refine lv_goto (tgt := 18) hx hb dL_law_637 (by decide) ?_
  exact ih q S' Sm' H locs _ _ ls hJ2 hM2 hR2 h2 hS hcs hl

set_option maxHeartbeats 4000000 in
set_option maxRecDepth 100000 in
theorem zl_7 {p : Program} {e : Env} {s : State} {m : MethodId} {below : List Frame} {meth : Method} {c : Code} (l : Launch) {bs L : Nat} {xs : Nat → Int32} (C0 : lw_At p s m meth c bs L xs) (hL : L ≤ 2560) {A : Nat → Prop} (hA : ∀ q : Nat, s.heap.size ≤ q → A q) (hbA : ¬ A bs) {D : va_G} {cI cZ cP cF : Nat} (hE : zF D cI cZ cP cF s) (hT : zT A s s.heap) {m0 : Nat} {qm : Nat → Nat} {q : Nat → Nat → Nat} {S : CST} {Sm : MST} (hJ : J S) (hM : MI Sm (cnP S)) (hR : FR1 S Sm) {H : Heap} {locs : List Loc} {cells slots : Nat} {ls : Array Slot} (h2 : two D A (cW cI cZ cP cF q S) (mW cI cZ m0 qm Sm) H) (hS : va_S A s.heap H locs) (hcs : cells ≤ 95 + 8 * cnP S + 3 * cnC S ∧ slots ≤ 323715 + 232 * cnP S + 7619 * cnC S) {j : Nat} (hj : 5 * j + 5 ≤ L) (hl : lv_has ls 4 [(3, .int (nI (5 * j))), (2, .ref m0), (1, .ref (q 0 0)), (0, .ref bs)]) (ih : ∀ (q : Nat → Nat → Nat) (S : CST) (Sm : MST) (H : Heap) (locs : List Loc) (cells slots : Nat) (ls : Array Slot), J S → MI Sm (cnP S) → FR1 S Sm → two D A (cW cI cZ cP cF q S) (mW cI cZ m0 qm Sm) H → va_S A s.heap H locs → (cells ≤ 95 + 8 * cnP S + 3 * cnC S ∧ slots ≤ 323715 + 232 * cnP S + 7619 * cnC S) → lv_has ls 4 [(3, .int (nI (5 * (j + 1)))), (2, .ref m0), (1, .ref (q 0 0)), (0, .ref bs)] → W p l e room_1 s m #[Value.ref bs] below meth c H locs cells slots (lw_Z below #[Value.ref bs] s) (F0 m 18 ls [])) : W p l e room_1 s m #[Value.ref bs] below meth c H locs cells slots (lw_Z below #[Value.ref bs] s) (F0 m 311 ls []) := by
  obtain ⟨hx, hb, hr, hml, hown, hts0, hX, hbl, hlocks, hgv⟩ := id C0
  have hts : ∀ w ∈ zw_law, w.before #[Value.ref bs] s = true := fun w h => hts0 w (zw_law_in w h)
  have hown : s.vm.findClass RL = some m.cls := hown
  have hK := hE.k
  have hcap := hJ.cap
  obtain ⟨hcP, hcC⟩ := id hcap
  obtain ⟨hcs1, hcs2⟩ := id hcs
  refine lv_aload_n hx hb dL_law_311 rfl (lv_at hl 2 rfl) ?_
  refine lv_aload_n hx hb dL_law_312 rfl (lv_at hl 3 rfl) ?_
  refine lv_iload_n hx hb dL_law_313 rfl (lv_at hl 0 rfl) ?_
  refine lv_iconst (v := 1) hx hb dL_law_314 (by decide) ?_
  refine lv_iadd hx hb dL_law_315 ?_
  have hin_1 : vp_in (nI (5 * j) + 1) L := by rw [show nI (5 * j) + 1 = nI (5 * j + 1) from nI_add _ 1]; exact vp_in_nI (by omega) (by omega)
  refine va_sld hx hb hX hbl hbA hS hin_1 dL_law_316 ?_
  obtain ⟨p_0, hp_0⟩ := cget_0 cI cZ cP cF q S
  refine vp_callSi (va_Run.run (va_runV (As := [.int (xs (nI (5 * j) + 1 : Int32).toNatClampNeg)]) (rest := []) ⟨hx, hb, hml, hown, hts⟩ (zd_X11_size l D cI cZ cP cF q S (xs (nI (5 * j) + 1 : Int32).toNatClampNeg) _ (jm_size (Post := fun _ => True) (fun _ => trivial))) (cwV 1 hts zg_law_zd_X11_size rfl rfl rfl (by decide +kernel) ⟨Nat.le_of_ble_eq_true rfl, Nat.le_of_ble_eq_true rfl⟩) ⟨zCR, va_recv hK h2.1 (ci := 11) (q0 := p_0) rfl hp_0, fun U hU hW => ⟨rfl, by rw [hU]; exact h2.1, hE.warm hW⟩⟩ rfl rfl hl.1 rfl (lv_room (Nat.le_of_ble_eq_true rfl)) dL_law_317 ⟨by show cells + 0 ≤ 600000; omega, by show slots + 0 ≤ 7302250; omega⟩)) (fun r317 _ => ?_)
  refine lv_pop hx hb dL_law_320 rfl ?_
  refine lv_aload_n hx hb dL_law_321 rfl (lv_at hl 1 rfl) ?_
  refine lv_aload_n hx hb dL_law_322 rfl (lv_at hl 3 rfl) ?_
  refine lv_iload_n hx hb dL_law_323 rfl (lv_at hl 0 rfl) ?_
  refine lv_iconst (v := 1) hx hb dL_law_324 (by decide) ?_
  refine lv_iadd hx hb dL_law_325 ?_
  have hin_2 : vp_in (nI (5 * j) + 1) L := by rw [show nI (5 * j) + 1 = nI (5 * j + 1) from nI_add _ 1]; exact vp_in_nI (by omega) (by omega)
  refine va_sld hx hb hX hbl hbA hS hin_2 dL_law_326 ?_
  refine vp_callSi (va_Run.run (va_runV (As := [.int (xs (nI (5 * j) + 1 : Int32).toNatClampNeg)]) (rest := []) ⟨hx, hb, hml, hown, hts⟩ (zd_X12_size l D cI cZ cP cF m0 qm Sm (xs (nI (5 * j) + 1 : Int32).toNatClampNeg) _ (sp_size (Post := fun _ => True) (fun _ => trivial))) (cwV 1 hts zg_law_zd_X12_size rfl rfl rfl (by decide +kernel) ⟨Nat.le_of_ble_eq_true rfl, Nat.le_of_ble_eq_true rfl⟩) ⟨zBR, va_recv hK h2.2.1 (ci := 12) (q0 := 0) rfl rfl, fun U hU hW => ⟨rfl, by rw [hU]; exact h2.2.1, hE.1.warm hW⟩⟩ rfl rfl hl.1 rfl (lv_room (Nat.le_of_ble_eq_true rfl)) dL_law_327 ⟨by show cells + 0 ≤ 600000; omega, by show slots + 0 ≤ 7302250; omega⟩)) (fun r327 _ => ?_)
  have hM2 := hM
  have hR2 := hR
  refine lv_pop hx hb dL_law_330 rfl ?_
  refine lv_goto (tgt := 634) hx hb dL_law_331 (by decide) ?_
  refine lv_iinc (v := nI (5 * (j + 1))) (lv' := [(3, .int (nI (5 * (j + 1)))), (2, .ref m0), (1, .ref (q 0 0)), (0, .ref bs)]) hx hb dL_law_634 hl (k := 0) rfl (by rw [show 5 * (j + 1) = 5 * j + 5 by omega]; exact nI_add _ 5) (by decide) rfl (fun ls hl => ?_)
  refine lv_goto (tgt := 18) hx hb dL_law_637 (by decide) ?_
  exact ih q S Sm H locs _ _ ls hJ hM2 hR2 h2 hS hcs hl

set_option maxHeartbeats 4000000 in
set_option maxRecDepth 100000 in
theorem zl_8 {p : Program} {e : Env} {s : State} {m : MethodId} {below : List Frame} {meth : Method} {c : Code} (l : Launch) {bs L : Nat} {xs : Nat → Int32} (C0 : lw_At p s m meth c bs L xs) (hL : L ≤ 2560) {A : Nat → Prop} (hA : ∀ q : Nat, s.heap.size ≤ q → A q) (hbA : ¬ A bs) {D : va_G} {cI cZ cP cF : Nat} (hE : zF D cI cZ cP cF s) (hT : zT A s s.heap) {m0 : Nat} {qm : Nat → Nat} {q : Nat → Nat → Nat} {S : CST} {Sm : MST} (hJ : J S) (hM : MI Sm (cnP S)) (hR : FR1 S Sm) {H : Heap} {locs : List Loc} {cells slots : Nat} {ls : Array Slot} (h2 : two D A (cW cI cZ cP cF q S) (mW cI cZ m0 qm Sm) H) (hS : va_S A s.heap H locs) (hcs : cells ≤ 95 + 8 * cnP S + 3 * cnC S ∧ slots ≤ 323715 + 232 * cnP S + 7619 * cnC S) {j : Nat} (hj : 5 * j + 5 ≤ L) (hl : lv_has ls 4 [(3, .int (nI (5 * j))), (2, .ref m0), (1, .ref (q 0 0)), (0, .ref bs)]) (ih : ∀ (q : Nat → Nat → Nat) (S : CST) (Sm : MST) (H : Heap) (locs : List Loc) (cells slots : Nat) (ls : Array Slot), J S → MI Sm (cnP S) → FR1 S Sm → two D A (cW cI cZ cP cF q S) (mW cI cZ m0 qm Sm) H → va_S A s.heap H locs → (cells ≤ 95 + 8 * cnP S + 3 * cnC S ∧ slots ≤ 323715 + 232 * cnP S + 7619 * cnC S) → lv_has ls 4 [(3, .int (nI (5 * (j + 1)))), (2, .ref m0), (1, .ref (q 0 0)), (0, .ref bs)] → W p l e room_1 s m #[Value.ref bs] below meth c H locs cells slots (lw_Z below #[Value.ref bs] s) (F0 m 18 ls [])) : W p l e room_1 s m #[Value.ref bs] below meth c H locs cells slots (lw_Z below #[Value.ref bs] s) (F0 m 334 ls []) := by
  obtain ⟨hx, hb, hr, hml, hown, hts0, hX, hbl, hlocks, hgv⟩ := id C0
  have hts : ∀ w ∈ zw_law, w.before #[Value.ref bs] s = true := fun w h => hts0 w (zw_law_in w h)
  have hown : s.vm.findClass RL = some m.cls := hown
  have hK := hE.k
  have hcap := hJ.cap
  obtain ⟨hcP, hcC⟩ := id hcap
  obtain ⟨hcs1, hcs2⟩ := id hcs
  refine lv_aload_n hx hb dL_law_334 rfl (lv_at hl 2 rfl) ?_
  refine lv_aload_n hx hb dL_law_335 rfl (lv_at hl 3 rfl) ?_
  refine lv_iload_n hx hb dL_law_336 rfl (lv_at hl 0 rfl) ?_
  refine lv_iconst (v := 1) hx hb dL_law_337 (by decide) ?_
  refine lv_iadd hx hb dL_law_338 ?_
  have hin_1 : vp_in (nI (5 * j) + 1) L := by rw [show nI (5 * j) + 1 = nI (5 * j + 1) from nI_add _ 1]; exact vp_in_nI (by omega) (by omega)
  refine va_sld hx hb hX hbl hbA hS hin_1 dL_law_339 ?_
  refine lv_aload_n hx hb dL_law_340 rfl (lv_at hl 3 rfl) ?_
  refine lv_iload_n hx hb dL_law_341 rfl (lv_at hl 0 rfl) ?_
  refine lv_iconst (v := 2) hx hb dL_law_342 (by decide) ?_
  refine lv_iadd hx hb dL_law_343 ?_
  have hin_2 : vp_in (nI (5 * j) + 2) L := by rw [show nI (5 * j) + 2 = nI (5 * j + 2) from nI_add _ 2]; exact vp_in_nI (by omega) (by omega)
  refine va_sld hx hb hX hbl hbA hS hin_2 dL_law_344 ?_
  obtain ⟨p_0, hp_0⟩ := cget_0 cI cZ cP cF q S
  refine vp_callSi (va_Run.run (va_runV (As := [.int (xs (nI (5 * j) + 1 : Int32).toNatClampNeg), .int (xs (nI (5 * j) + 2 : Int32).toNatClampNeg)]) (rest := []) ⟨hx, hb, hml, hown, hts⟩ (zd_X11_item l D cI cZ cP cF q S (xs (nI (5 * j) + 1 : Int32).toNatClampNeg) (xs (nI (5 * j) + 2 : Int32).toNatClampNeg) _ (jm_item (Post := fun _ => True) (fun _ => trivial))) (cwV 2 hts zg_law_zd_X11_item rfl rfl rfl (by decide +kernel) ⟨Nat.le_of_ble_eq_true rfl, Nat.le_of_ble_eq_true rfl⟩) ⟨zCR, va_recv hK h2.1 (ci := 11) (q0 := p_0) rfl hp_0, fun U hU hW => ⟨rfl, by rw [hU]; exact h2.1, hE.warm hW⟩⟩ rfl rfl hl.1 rfl (lv_room (Nat.le_of_ble_eq_true rfl)) dL_law_345 ⟨by show cells + 0 ≤ 600000; omega, by show slots + 0 ≤ 7302250; omega⟩)) (fun r345 _ => ?_)
  refine lv_pop hx hb dL_law_348 rfl ?_
  refine lv_aload_n hx hb dL_law_349 rfl (lv_at hl 1 rfl) ?_
  refine lv_aload_n hx hb dL_law_350 rfl (lv_at hl 3 rfl) ?_
  refine lv_iload_n hx hb dL_law_351 rfl (lv_at hl 0 rfl) ?_
  refine lv_iconst (v := 1) hx hb dL_law_352 (by decide) ?_
  refine lv_iadd hx hb dL_law_353 ?_
  have hin_3 : vp_in (nI (5 * j) + 1) L := by rw [show nI (5 * j) + 1 = nI (5 * j + 1) from nI_add _ 1]; exact vp_in_nI (by omega) (by omega)
  refine va_sld hx hb hX hbl hbA hS hin_3 dL_law_354 ?_
  refine lv_aload_n hx hb dL_law_355 rfl (lv_at hl 3 rfl) ?_
  refine lv_iload_n hx hb dL_law_356 rfl (lv_at hl 0 rfl) ?_
  refine lv_iconst (v := 2) hx hb dL_law_357 (by decide) ?_
  refine lv_iadd hx hb dL_law_358 ?_
  have hin_4 : vp_in (nI (5 * j) + 2) L := by rw [show nI (5 * j) + 2 = nI (5 * j + 2) from nI_add _ 2]; exact vp_in_nI (by omega) (by omega)
  refine va_sld hx hb hX hbl hbA hS hin_4 dL_law_359 ?_
  refine vp_callSi (va_Run.run (va_runV (As := [.int (xs (nI (5 * j) + 1 : Int32).toNatClampNeg), .int (xs (nI (5 * j) + 2 : Int32).toNatClampNeg)]) (rest := []) ⟨hx, hb, hml, hown, hts⟩ (zd_X12_item l D cI cZ cP cF m0 qm Sm (xs (nI (5 * j) + 1 : Int32).toNatClampNeg) (xs (nI (5 * j) + 2 : Int32).toNatClampNeg) _ (mi_item (Post := fun _ => True) hM (fun _ => trivial))) (cwV 2 hts zg_law_zd_X12_item rfl rfl rfl (by decide +kernel) ⟨Nat.le_of_ble_eq_true rfl, Nat.le_of_ble_eq_true rfl⟩) ⟨zBR, va_recv hK h2.2.1 (ci := 12) (q0 := 0) rfl rfl, fun U hU hW => ⟨rfl, by rw [hU]; exact h2.2.1, hE.1.warm hW⟩⟩ rfl rfl hl.1 rfl (lv_room (Nat.le_of_ble_eq_true rfl)) dL_law_360 ⟨by show cells + 0 ≤ 600000; omega, by show slots + 0 ≤ 7302250; omega⟩)) (fun r360 _ => ?_)
  have hM2 := hM
  have hR2 := hR
  refine lv_pop hx hb dL_law_363 rfl ?_
  refine lv_goto (tgt := 634) hx hb dL_law_364 (by decide) ?_
  refine lv_iinc (v := nI (5 * (j + 1))) (lv' := [(3, .int (nI (5 * (j + 1)))), (2, .ref m0), (1, .ref (q 0 0)), (0, .ref bs)]) hx hb dL_law_634 hl (k := 0) rfl (by rw [show 5 * (j + 1) = 5 * j + 5 by omega]; exact nI_add _ 5) (by decide) rfl (fun ls hl => ?_)
  refine lv_goto (tgt := 18) hx hb dL_law_637 (by decide) ?_
  exact ih q S Sm H locs _ _ ls hJ hM2 hR2 h2 hS hcs hl

set_option maxHeartbeats 4000000 in
set_option maxRecDepth 100000 in
theorem zl_9 {p : Program} {e : Env} {s : State} {m : MethodId} {below : List Frame} {meth : Method} {c : Code} (l : Launch) {bs L : Nat} {xs : Nat → Int32} (C0 : lw_At p s m meth c bs L xs) (hL : L ≤ 2560) {A : Nat → Prop} (hA : ∀ q : Nat, s.heap.size ≤ q → A q) (hbA : ¬ A bs) {D : va_G} {cI cZ cP cF : Nat} (hE : zF D cI cZ cP cF s) (hT : zT A s s.heap) {m0 : Nat} {qm : Nat → Nat} {q : Nat → Nat → Nat} {S : CST} {Sm : MST} (hJ : J S) (hM : MI Sm (cnP S)) (hR : FR1 S Sm) {H : Heap} {locs : List Loc} {cells slots : Nat} {ls : Array Slot} (h2 : two D A (cW cI cZ cP cF q S) (mW cI cZ m0 qm Sm) H) (hS : va_S A s.heap H locs) (hcs : cells ≤ 95 + 8 * cnP S + 3 * cnC S ∧ slots ≤ 323715 + 232 * cnP S + 7619 * cnC S) {j : Nat} (hj : 5 * j + 5 ≤ L) (hl : lv_has ls 4 [(3, .int (nI (5 * j))), (2, .ref m0), (1, .ref (q 0 0)), (0, .ref bs)]) (ih : ∀ (q : Nat → Nat → Nat) (S : CST) (Sm : MST) (H : Heap) (locs : List Loc) (cells slots : Nat) (ls : Array Slot), J S → MI Sm (cnP S) → FR1 S Sm → two D A (cW cI cZ cP cF q S) (mW cI cZ m0 qm Sm) H → va_S A s.heap H locs → (cells ≤ 95 + 8 * cnP S + 3 * cnC S ∧ slots ≤ 323715 + 232 * cnP S + 7619 * cnC S) → lv_has ls 4 [(3, .int (nI (5 * (j + 1)))), (2, .ref m0), (1, .ref (q 0 0)), (0, .ref bs)] → W p l e room_1 s m #[Value.ref bs] below meth c H locs cells slots (lw_Z below #[Value.ref bs] s) (F0 m 18 ls [])) : W p l e room_1 s m #[Value.ref bs] below meth c H locs cells slots (lw_Z below #[Value.ref bs] s) (F0 m 367 ls []) := by
  obtain ⟨hx, hb, hr, hml, hown, hts0, hX, hbl, hlocks, hgv⟩ := id C0
  have hts : ∀ w ∈ zw_law, w.before #[Value.ref bs] s = true := fun w h => hts0 w (zw_law_in w h)
  have hown : s.vm.findClass RL = some m.cls := hown
  have hK := hE.k
  have hcap := hJ.cap
  obtain ⟨hcP, hcC⟩ := id hcap
  obtain ⟨hcs1, hcs2⟩ := id hcs
  refine lv_aload_n hx hb dL_law_367 rfl (lv_at hl 2 rfl) ?_
  refine lv_aload_n hx hb dL_law_368 rfl (lv_at hl 3 rfl) ?_
  refine lv_iload_n hx hb dL_law_369 rfl (lv_at hl 0 rfl) ?_
  refine lv_iconst (v := 1) hx hb dL_law_370 (by decide) ?_
  refine lv_iadd hx hb dL_law_371 ?_
  have hin_1 : vp_in (nI (5 * j) + 1) L := by rw [show nI (5 * j) + 1 = nI (5 * j + 1) from nI_add _ 1]; exact vp_in_nI (by omega) (by omega)
  refine va_sld hx hb hX hbl hbA hS hin_1 dL_law_372 ?_
  refine lv_aload_n hx hb dL_law_373 rfl (lv_at hl 3 rfl) ?_
  refine lv_iload_n hx hb dL_law_374 rfl (lv_at hl 0 rfl) ?_
  refine lv_iconst (v := 2) hx hb dL_law_375 (by decide) ?_
  refine lv_iadd hx hb dL_law_376 ?_
  have hin_2 : vp_in (nI (5 * j) + 2) L := by rw [show nI (5 * j) + 2 = nI (5 * j + 2) from nI_add _ 2]; exact vp_in_nI (by omega) (by omega)
  refine va_sld hx hb hX hbl hbA hS hin_2 dL_law_377 ?_
  refine lv_aload_n hx hb dL_law_378 rfl (lv_at hl 3 rfl) ?_
  refine lv_iload_n hx hb dL_law_379 rfl (lv_at hl 0 rfl) ?_
  refine lv_iconst (v := 3) hx hb dL_law_380 (by decide) ?_
  refine lv_iadd hx hb dL_law_381 ?_
  have hin_3 : vp_in (nI (5 * j) + 3) L := by rw [show nI (5 * j) + 3 = nI (5 * j + 3) from nI_add _ 3]; exact vp_in_nI (by omega) (by omega)
  refine va_sld hx hb hX hbl hbA hS hin_3 dL_law_382 ?_
  refine lv_aload_n hx hb dL_law_383 rfl (lv_at hl 3 rfl) ?_
  refine lv_iload_n hx hb dL_law_384 rfl (lv_at hl 0 rfl) ?_
  refine lv_iconst (v := 4) hx hb dL_law_385 (by decide) ?_
  refine lv_iadd hx hb dL_law_386 ?_
  have hin_4 : vp_in (nI (5 * j) + 4) L := by rw [show nI (5 * j) + 4 = nI (5 * j + 4) from nI_add _ 4]; exact vp_in_nI (by omega) (by omega)
  refine va_sld hx hb hX hbl hbA hS hin_4 dL_law_387 ?_
  obtain ⟨p_0, hp_0⟩ := cget_0 cI cZ cP cF q S
  have hFc := zm_free h2.2.2.1 hS hA
  refine xc_i (z_runV (As := [.int (xs (nI (5 * j) + 1 : Int32).toNatClampNeg), .int (xs (nI (5 * j) + 2 : Int32).toNatClampNeg), .int (xs (nI (5 * j) + 3 : Int32).toNatClampNeg), .int (xs (nI (5 * j) + 4 : Int32).toNatClampNeg)]) (rest := []) ⟨hx, hb, hml, hown, hts⟩ (zd_X11_run l D cI cZ cP cF q S (xs (nI (5 * j) + 1 : Int32).toNatClampNeg) (xs (nI (5 * j) + 2 : Int32).toNatClampNeg) (xs (nI (5 * j) + 3 : Int32).toNatClampNeg) (xs (nI (5 * j) + 4 : Int32).toNatClampNeg) H.size _ (zq_run hJ hM hR) hcap) (cwV 4 hts zg_law_zd_X11_run rfl rfl rfl (by decide +kernel) ⟨Nat.le_of_ble_eq_true rfl, Nat.le_of_ble_eq_true rfl⟩) ⟨zCW, va_recv hK h2.1 (ci := 11) (q0 := p_0) rfl hp_0, fun U hU hW => ⟨rfl, by rw [hU], by rw [hU]; exact h2.1, hE.warm hW, h2.2.2.1.weaken (fun _ _ _ _ => trivial)⟩⟩ rfl rfl hl.1 rfl (lv_room (Nat.le_of_ble_eq_true rfl)) dL_law_388 ⟨by show cells + rmc S ≤ 600000; unfold rmc; omega, by show slots + rms S ≤ 7302250; unfold rms; omega⟩) hS (fun q _ h => hFc q h) hFc (fun r388 q' S' k n t H locs ht hvm h hB hz1 hk1 hS => ?_)
  obtain ⟨hP1, hD1, hq1, g1, g2, g3, g4, g5, g6⟩ := hB
  rw [ht] at hP1
  have h2 := two_l h2 hk1 hP1 hD1 hFc
  have hl : lv_has ls 4 [(3, .int (nI (5 * j))), (2, .ref m0), (1, .ref (q' 0 0)), (0, .ref bs)] := by rw [hq1 0 0 (cinS (by decide))]; exact hl
  have hcs : cells + k ≤ 95 + 8 * cnP S' + 3 * cnC S' ∧ slots + n ≤ 323715 + 232 * cnP S' + 7619 * cnC S' := ⟨by omega, by omega⟩
  obtain ⟨hJ2, hw⟩ := h
  have hcap2 := hJ2.cap
  obtain ⟨hc1, hc2⟩ := hcap2
  refine lv_pop hx hb dL_law_391 rfl ?_
  refine lv_aload_n hx hb dL_law_392 rfl (lv_at hl 1 rfl) ?_
  refine lv_aload_n hx hb dL_law_393 rfl (lv_at hl 3 rfl) ?_
  refine lv_iload_n hx hb dL_law_394 rfl (lv_at hl 0 rfl) ?_
  refine lv_iconst (v := 1) hx hb dL_law_395 (by decide) ?_
  refine lv_iadd hx hb dL_law_396 ?_
  have hin_5 : vp_in (nI (5 * j) + 1) L := by rw [show nI (5 * j) + 1 = nI (5 * j + 1) from nI_add _ 1]; exact vp_in_nI (by omega) (by omega)
  refine va_sld hx hb hX hbl hbA hS hin_5 dL_law_397 ?_
  refine lv_aload_n hx hb dL_law_398 rfl (lv_at hl 3 rfl) ?_
  refine lv_iload_n hx hb dL_law_399 rfl (lv_at hl 0 rfl) ?_
  refine lv_iconst (v := 2) hx hb dL_law_400 (by decide) ?_
  refine lv_iadd hx hb dL_law_401 ?_
  have hin_6 : vp_in (nI (5 * j) + 2) L := by rw [show nI (5 * j) + 2 = nI (5 * j + 2) from nI_add _ 2]; exact vp_in_nI (by omega) (by omega)
  refine va_sld hx hb hX hbl hbA hS hin_6 dL_law_402 ?_
  refine lv_aload_n hx hb dL_law_403 rfl (lv_at hl 3 rfl) ?_
  refine lv_iload_n hx hb dL_law_404 rfl (lv_at hl 0 rfl) ?_
  refine lv_iconst (v := 3) hx hb dL_law_405 (by decide) ?_
  refine lv_iadd hx hb dL_law_406 ?_
  have hin_7 : vp_in (nI (5 * j) + 3) L := by rw [show nI (5 * j) + 3 = nI (5 * j + 3) from nI_add _ 3]; exact vp_in_nI (by omega) (by omega)
  refine va_sld hx hb hX hbl hbA hS hin_7 dL_law_407 ?_
  refine lv_aload_n hx hb dL_law_408 rfl (lv_at hl 3 rfl) ?_
  refine lv_iload_n hx hb dL_law_409 rfl (lv_at hl 0 rfl) ?_
  refine lv_iconst (v := 4) hx hb dL_law_410 (by decide) ?_
  refine lv_iadd hx hb dL_law_411 ?_
  have hin_8 : vp_in (nI (5 * j) + 4) L := by rw [show nI (5 * j) + 4 = nI (5 * j + 4) from nI_add _ 4]; exact vp_in_nI (by omega) (by omega)
  refine va_sld hx hb hX hbl hbA hS hin_8 dL_law_412 ?_
  have hFc := zm_free h2.2.2.2.1 hS hA
  refine va_calli (va_runV (As := [.int (xs (nI (5 * j) + 1 : Int32).toNatClampNeg), .int (xs (nI (5 * j) + 2 : Int32).toNatClampNeg), .int (xs (nI (5 * j) + 3 : Int32).toNatClampNeg), .int (xs (nI (5 * j) + 4 : Int32).toNatClampNeg)]) (rest := []) ⟨hx, hb, hml, hown, hts⟩ (zd_X12_run l D cI cZ cP cF m0 qm Sm (xs (nI (5 * j) + 1 : Int32).toNatClampNeg) (xs (nI (5 * j) + 2 : Int32).toNatClampNeg) (xs (nI (5 * j) + 3 : Int32).toNatClampNeg) (xs (nI (5 * j) + 4 : Int32).toNatClampNeg) H.size _ hw) (cwV 4 hts zg_law_zd_X12_run rfl rfl rfl (by decide +kernel) ⟨Nat.le_of_ble_eq_true rfl, Nat.le_of_ble_eq_true rfl⟩) ⟨zBW, va_recv hK h2.2.1 (ci := 12) (q0 := 0) rfl rfl, fun U hU hW => ⟨rfl, by rw [hU], by rw [hU]; exact h2.2.1, hE.1.warm hW, h2.2.2.2.1.weaken (fun _ _ _ _ => trivial)⟩⟩ rfl rfl hl.1 rfl (lv_room (Nat.le_of_ble_eq_true rfl)) dL_law_413 ⟨by show cells + k + 0 ≤ 600000; omega, by show slots + n + 0 ≤ 7302250; omega⟩) hS (fun q _ h => hFc q h) hFc (fun r413 Sm' t H locs ht hvm h hB hz1 hk1 hS => ?_)
  obtain ⟨hP1, hD1⟩ := hB
  rw [ht] at hP1
  have h2 := two_r h2 hk1 hP1 hD1 hFc
  obtain ⟨hM2, hR2, hre⟩ := h
  refine lv_pop hx hb dL_law_416 rfl ?_
  refine lv_goto (tgt := 634) hx hb dL_law_417 (by decide) ?_
  refine lv_iinc (v := nI (5 * (j + 1))) (lv' := [(3, .int (nI (5 * (j + 1)))), (2, .ref m0), (1, .ref (q' 0 0)), (0, .ref bs)]) hx hb dL_law_634 hl (k := 0) rfl (by rw [show 5 * (j + 1) = 5 * j + 5 by omega]; exact nI_add _ 5) (by decide) rfl (fun ls hl => ?_)
  refine lv_goto (tgt := 18) hx hb dL_law_637 (by decide) ?_
  exact ih q' S' Sm' H locs _ _ ls hJ2 hM2 hR2 h2 hS hcs hl

set_option maxHeartbeats 4000000 in
set_option maxRecDepth 100000 in
theorem zl_10 {p : Program} {e : Env} {s : State} {m : MethodId} {below : List Frame} {meth : Method} {c : Code} (l : Launch) {bs L : Nat} {xs : Nat → Int32} (C0 : lw_At p s m meth c bs L xs) (hL : L ≤ 2560) {A : Nat → Prop} (hA : ∀ q : Nat, s.heap.size ≤ q → A q) (hbA : ¬ A bs) {D : va_G} {cI cZ cP cF : Nat} (hE : zF D cI cZ cP cF s) (hT : zT A s s.heap) {m0 : Nat} {qm : Nat → Nat} {q : Nat → Nat → Nat} {S : CST} {Sm : MST} (hJ : J S) (hM : MI Sm (cnP S)) (hR : FR1 S Sm) {H : Heap} {locs : List Loc} {cells slots : Nat} {ls : Array Slot} (h2 : two D A (cW cI cZ cP cF q S) (mW cI cZ m0 qm Sm) H) (hS : va_S A s.heap H locs) (hcs : cells ≤ 95 + 8 * cnP S + 3 * cnC S ∧ slots ≤ 323715 + 232 * cnP S + 7619 * cnC S) {j : Nat} (hj : 5 * j + 5 ≤ L) (hl : lv_has ls 4 [(3, .int (nI (5 * j))), (2, .ref m0), (1, .ref (q 0 0)), (0, .ref bs)]) (ih : ∀ (q : Nat → Nat → Nat) (S : CST) (Sm : MST) (H : Heap) (locs : List Loc) (cells slots : Nat) (ls : Array Slot), J S → MI Sm (cnP S) → FR1 S Sm → two D A (cW cI cZ cP cF q S) (mW cI cZ m0 qm Sm) H → va_S A s.heap H locs → (cells ≤ 95 + 8 * cnP S + 3 * cnC S ∧ slots ≤ 323715 + 232 * cnP S + 7619 * cnC S) → lv_has ls 4 [(3, .int (nI (5 * (j + 1)))), (2, .ref m0), (1, .ref (q 0 0)), (0, .ref bs)] → W p l e room_1 s m #[Value.ref bs] below meth c H locs cells slots (lw_Z below #[Value.ref bs] s) (F0 m 18 ls [])) : W p l e room_1 s m #[Value.ref bs] below meth c H locs cells slots (lw_Z below #[Value.ref bs] s) (F0 m 420 ls []) := by
  obtain ⟨hx, hb, hr, hml, hown, hts0, hX, hbl, hlocks, hgv⟩ := id C0
  have hts : ∀ w ∈ zw_law, w.before #[Value.ref bs] s = true := fun w h => hts0 w (zw_law_in w h)
  have hown : s.vm.findClass RL = some m.cls := hown
  have hK := hE.k
  have hcap := hJ.cap
  obtain ⟨hcP, hcC⟩ := id hcap
  obtain ⟨hcs1, hcs2⟩ := id hcs
  refine lv_aload_n hx hb dL_law_420 rfl (lv_at hl 2 rfl) ?_
  obtain ⟨p_0, hp_0⟩ := cget_0 cI cZ cP cF q S
  refine vp_callSi (va_Run.run (va_runV (As := []) (rest := []) ⟨hx, hb, hml, hown, hts⟩ (zd_X11_answer l D cI cZ cP cF q S  _ (jm_answer (Post := fun _ => True) (fun _ => trivial))) (cwV 0 hts zg_law_zd_X11_answer rfl rfl rfl (by decide +kernel) ⟨Nat.le_of_ble_eq_true rfl, Nat.le_of_ble_eq_true rfl⟩) ⟨zCR, va_recv hK h2.1 (ci := 11) (q0 := p_0) rfl hp_0, fun U hU hW => ⟨rfl, by rw [hU]; exact h2.1, hE.warm hW⟩⟩ rfl rfl hl.1 rfl (lv_room (Nat.le_of_ble_eq_true rfl)) dL_law_421 ⟨by show cells + 0 ≤ 600000; omega, by show slots + 0 ≤ 7302250; omega⟩)) (fun r421 _ => ?_)
  refine lv_pop hx hb dL_law_424 rfl ?_
  refine lv_aload_n hx hb dL_law_425 rfl (lv_at hl 1 rfl) ?_
  refine vp_callSi (va_Run.run (va_runV (As := []) (rest := []) ⟨hx, hb, hml, hown, hts⟩ (zd_X12_answer l D cI cZ cP cF m0 qm Sm  _ (mi_answer (Post := fun _ => True) (fun _ => trivial))) (cwV 0 hts zg_law_zd_X12_answer rfl rfl rfl (by decide +kernel) ⟨Nat.le_of_ble_eq_true rfl, Nat.le_of_ble_eq_true rfl⟩) ⟨zBR, va_recv hK h2.2.1 (ci := 12) (q0 := 0) rfl rfl, fun U hU hW => ⟨rfl, by rw [hU]; exact h2.2.1, hE.1.warm hW⟩⟩ rfl rfl hl.1 rfl (lv_room (Nat.le_of_ble_eq_true rfl)) dL_law_426 ⟨by show cells + 0 ≤ 600000; omega, by show slots + 0 ≤ 7302250; omega⟩)) (fun r426 _ => ?_)
  have hM2 := hM
  have hR2 := hR
  refine lv_pop hx hb dL_law_429 rfl ?_
  refine lv_goto (tgt := 634) hx hb dL_law_430 (by decide) ?_
  refine lv_iinc (v := nI (5 * (j + 1))) (lv' := [(3, .int (nI (5 * (j + 1)))), (2, .ref m0), (1, .ref (q 0 0)), (0, .ref bs)]) hx hb dL_law_634 hl (k := 0) rfl (by rw [show 5 * (j + 1) = 5 * j + 5 by omega]; exact nI_add _ 5) (by decide) rfl (fun ls hl => ?_)
  refine lv_goto (tgt := 18) hx hb dL_law_637 (by decide) ?_
  exact ih q S Sm H locs _ _ ls hJ hM2 hR2 h2 hS hcs hl

set_option maxHeartbeats 4000000 in
set_option maxRecDepth 100000 in
theorem zl_11 {p : Program} {e : Env} {s : State} {m : MethodId} {below : List Frame} {meth : Method} {c : Code} (l : Launch) {bs L : Nat} {xs : Nat → Int32} (C0 : lw_At p s m meth c bs L xs) (hL : L ≤ 2560) {A : Nat → Prop} (hA : ∀ q : Nat, s.heap.size ≤ q → A q) (hbA : ¬ A bs) {D : va_G} {cI cZ cP cF : Nat} (hE : zF D cI cZ cP cF s) (hT : zT A s s.heap) {m0 : Nat} {qm : Nat → Nat} {q : Nat → Nat → Nat} {S : CST} {Sm : MST} (hJ : J S) (hM : MI Sm (cnP S)) (hR : FR1 S Sm) {H : Heap} {locs : List Loc} {cells slots : Nat} {ls : Array Slot} (h2 : two D A (cW cI cZ cP cF q S) (mW cI cZ m0 qm Sm) H) (hS : va_S A s.heap H locs) (hcs : cells ≤ 95 + 8 * cnP S + 3 * cnC S ∧ slots ≤ 323715 + 232 * cnP S + 7619 * cnC S) {j : Nat} (hj : 5 * j + 5 ≤ L) (hl : lv_has ls 4 [(3, .int (nI (5 * j))), (2, .ref m0), (1, .ref (q 0 0)), (0, .ref bs)]) (ih : ∀ (q : Nat → Nat → Nat) (S : CST) (Sm : MST) (H : Heap) (locs : List Loc) (cells slots : Nat) (ls : Array Slot), J S → MI Sm (cnP S) → FR1 S Sm → two D A (cW cI cZ cP cF q S) (mW cI cZ m0 qm Sm) H → va_S A s.heap H locs → (cells ≤ 95 + 8 * cnP S + 3 * cnC S ∧ slots ≤ 323715 + 232 * cnP S + 7619 * cnC S) → lv_has ls 4 [(3, .int (nI (5 * (j + 1)))), (2, .ref m0), (1, .ref (q 0 0)), (0, .ref bs)] → W p l e room_1 s m #[Value.ref bs] below meth c H locs cells slots (lw_Z below #[Value.ref bs] s) (F0 m 18 ls [])) : W p l e room_1 s m #[Value.ref bs] below meth c H locs cells slots (lw_Z below #[Value.ref bs] s) (F0 m 433 ls []) := by
  obtain ⟨hx, hb, hr, hml, hown, hts0, hX, hbl, hlocks, hgv⟩ := id C0
  have hts : ∀ w ∈ zw_law, w.before #[Value.ref bs] s = true := fun w h => hts0 w (zw_law_in w h)
  have hown : s.vm.findClass RL = some m.cls := hown
  have hK := hE.k
  have hcap := hJ.cap
  obtain ⟨hcP, hcC⟩ := id hcap
  obtain ⟨hcs1, hcs2⟩ := id hcs
  refine lv_aload_n hx hb dL_law_433 rfl (lv_at hl 2 rfl) ?_
  refine lv_aload_n hx hb dL_law_434 rfl (lv_at hl 3 rfl) ?_
  refine lv_iload_n hx hb dL_law_435 rfl (lv_at hl 0 rfl) ?_
  refine lv_iconst (v := 1) hx hb dL_law_436 (by decide) ?_
  refine lv_iadd hx hb dL_law_437 ?_
  have hin_1 : vp_in (nI (5 * j) + 1) L := by rw [show nI (5 * j) + 1 = nI (5 * j + 1) from nI_add _ 1]; exact vp_in_nI (by omega) (by omega)
  refine va_sld hx hb hX hbl hbA hS hin_1 dL_law_438 ?_
  obtain ⟨p_0, hp_0⟩ := cget_0 cI cZ cP cF q S
  refine vp_callSi (va_Run.run (va_runV (As := [.int (xs (nI (5 * j) + 1 : Int32).toNatClampNeg)]) (rest := []) ⟨hx, hb, hml, hown, hts⟩ (zd_X11_trap l D cI cZ cP cF q S (xs (nI (5 * j) + 1 : Int32).toNatClampNeg) _ (jm_trap (Post := fun _ => True) (fun _ => trivial))) (cwV 1 hts zg_law_zd_X11_trap rfl rfl rfl (by decide +kernel) ⟨Nat.le_of_ble_eq_true rfl, Nat.le_of_ble_eq_true rfl⟩) ⟨zCR, va_recv hK h2.1 (ci := 11) (q0 := p_0) rfl hp_0, fun U hU hW => ⟨rfl, by rw [hU]; exact h2.1, hE.warm hW⟩⟩ rfl rfl hl.1 rfl (lv_room (Nat.le_of_ble_eq_true rfl)) dL_law_439 ⟨by show cells + 0 ≤ 600000; omega, by show slots + 0 ≤ 7302250; omega⟩)) (fun r439 _ => ?_)
  refine lv_pop hx hb dL_law_442 rfl ?_
  refine lv_aload_n hx hb dL_law_443 rfl (lv_at hl 1 rfl) ?_
  refine lv_aload_n hx hb dL_law_444 rfl (lv_at hl 3 rfl) ?_
  refine lv_iload_n hx hb dL_law_445 rfl (lv_at hl 0 rfl) ?_
  refine lv_iconst (v := 1) hx hb dL_law_446 (by decide) ?_
  refine lv_iadd hx hb dL_law_447 ?_
  have hin_2 : vp_in (nI (5 * j) + 1) L := by rw [show nI (5 * j) + 1 = nI (5 * j + 1) from nI_add _ 1]; exact vp_in_nI (by omega) (by omega)
  refine va_sld hx hb hX hbl hbA hS hin_2 dL_law_448 ?_
  refine vp_callSi (va_Run.run (va_runV (As := [.int (xs (nI (5 * j) + 1 : Int32).toNatClampNeg)]) (rest := []) ⟨hx, hb, hml, hown, hts⟩ (zd_X12_trap l D cI cZ cP cF m0 qm Sm (xs (nI (5 * j) + 1 : Int32).toNatClampNeg) _ (sp_trap (Post := fun _ => True) (fun _ => trivial))) (cwV 1 hts zg_law_zd_X12_trap rfl rfl rfl (by decide +kernel) ⟨Nat.le_of_ble_eq_true rfl, Nat.le_of_ble_eq_true rfl⟩) ⟨zBR, va_recv hK h2.2.1 (ci := 12) (q0 := 0) rfl rfl, fun U hU hW => ⟨rfl, by rw [hU]; exact h2.2.1, hE.1.warm hW⟩⟩ rfl rfl hl.1 rfl (lv_room (Nat.le_of_ble_eq_true rfl)) dL_law_449 ⟨by show cells + 0 ≤ 600000; omega, by show slots + 0 ≤ 7302250; omega⟩)) (fun r449 _ => ?_)
  have hM2 := hM
  have hR2 := hR
  refine lv_pop hx hb dL_law_452 rfl ?_
  refine lv_goto (tgt := 634) hx hb dL_law_453 (by decide) ?_
  refine lv_iinc (v := nI (5 * (j + 1))) (lv' := [(3, .int (nI (5 * (j + 1)))), (2, .ref m0), (1, .ref (q 0 0)), (0, .ref bs)]) hx hb dL_law_634 hl (k := 0) rfl (by rw [show 5 * (j + 1) = 5 * j + 5 by omega]; exact nI_add _ 5) (by decide) rfl (fun ls hl => ?_)
  refine lv_goto (tgt := 18) hx hb dL_law_637 (by decide) ?_
  exact ih q S Sm H locs _ _ ls hJ hM2 hR2 h2 hS hcs hl

set_option maxHeartbeats 4000000 in
set_option maxRecDepth 100000 in
theorem zl_12 {p : Program} {e : Env} {s : State} {m : MethodId} {below : List Frame} {meth : Method} {c : Code} (l : Launch) {bs L : Nat} {xs : Nat → Int32} (C0 : lw_At p s m meth c bs L xs) (hL : L ≤ 2560) {A : Nat → Prop} (hA : ∀ q : Nat, s.heap.size ≤ q → A q) (hbA : ¬ A bs) {D : va_G} {cI cZ cP cF : Nat} (hE : zF D cI cZ cP cF s) (hT : zT A s s.heap) {m0 : Nat} {qm : Nat → Nat} {q : Nat → Nat → Nat} {S : CST} {Sm : MST} (hJ : J S) (hM : MI Sm (cnP S)) (hR : FR1 S Sm) {H : Heap} {locs : List Loc} {cells slots : Nat} {ls : Array Slot} (h2 : two D A (cW cI cZ cP cF q S) (mW cI cZ m0 qm Sm) H) (hS : va_S A s.heap H locs) (hcs : cells ≤ 95 + 8 * cnP S + 3 * cnC S ∧ slots ≤ 323715 + 232 * cnP S + 7619 * cnC S) {j : Nat} (hj : 5 * j + 5 ≤ L) (hl : lv_has ls 4 [(3, .int (nI (5 * j))), (2, .ref m0), (1, .ref (q 0 0)), (0, .ref bs)]) (ih : ∀ (q : Nat → Nat → Nat) (S : CST) (Sm : MST) (H : Heap) (locs : List Loc) (cells slots : Nat) (ls : Array Slot), J S → MI Sm (cnP S) → FR1 S Sm → two D A (cW cI cZ cP cF q S) (mW cI cZ m0 qm Sm) H → va_S A s.heap H locs → (cells ≤ 95 + 8 * cnP S + 3 * cnC S ∧ slots ≤ 323715 + 232 * cnP S + 7619 * cnC S) → lv_has ls 4 [(3, .int (nI (5 * (j + 1)))), (2, .ref m0), (1, .ref (q 0 0)), (0, .ref bs)] → W p l e room_1 s m #[Value.ref bs] below meth c H locs cells slots (lw_Z below #[Value.ref bs] s) (F0 m 18 ls [])) : W p l e room_1 s m #[Value.ref bs] below meth c H locs cells slots (lw_Z below #[Value.ref bs] s) (F0 m 456 ls []) := by
  obtain ⟨hx, hb, hr, hml, hown, hts0, hX, hbl, hlocks, hgv⟩ := id C0
  have hts : ∀ w ∈ zw_law, w.before #[Value.ref bs] s = true := fun w h => hts0 w (zw_law_in w h)
  have hown : s.vm.findClass RL = some m.cls := hown
  have hK := hE.k
  have hcap := hJ.cap
  obtain ⟨hcP, hcC⟩ := id hcap
  obtain ⟨hcs1, hcs2⟩ := id hcs
  refine lv_aload_n hx hb dL_law_456 rfl (lv_at hl 2 rfl) ?_
  refine lv_aload_n hx hb dL_law_457 rfl (lv_at hl 3 rfl) ?_
  refine lv_iload_n hx hb dL_law_458 rfl (lv_at hl 0 rfl) ?_
  refine lv_iconst (v := 1) hx hb dL_law_459 (by decide) ?_
  refine lv_iadd hx hb dL_law_460 ?_
  have hin_1 : vp_in (nI (5 * j) + 1) L := by rw [show nI (5 * j) + 1 = nI (5 * j + 1) from nI_add _ 1]; exact vp_in_nI (by omega) (by omega)
  refine va_sld hx hb hX hbl hbA hS hin_1 dL_law_461 ?_
  refine lv_aload_n hx hb dL_law_462 rfl (lv_at hl 3 rfl) ?_
  refine lv_iload_n hx hb dL_law_463 rfl (lv_at hl 0 rfl) ?_
  refine lv_iconst (v := 2) hx hb dL_law_464 (by decide) ?_
  refine lv_iadd hx hb dL_law_465 ?_
  have hin_2 : vp_in (nI (5 * j) + 2) L := by rw [show nI (5 * j) + 2 = nI (5 * j + 2) from nI_add _ 2]; exact vp_in_nI (by omega) (by omega)
  refine va_sld hx hb hX hbl hbA hS hin_2 dL_law_466 ?_
  obtain ⟨p_0, hp_0⟩ := cget_0 cI cZ cP cF q S
  refine vp_callSi (va_Run.run (va_runV (As := [.int (xs (nI (5 * j) + 1 : Int32).toNatClampNeg), .int (xs (nI (5 * j) + 2 : Int32).toNatClampNeg)]) (rest := []) ⟨hx, hb, hml, hown, hts⟩ (zd_X11_of l D cI cZ cP cF q S (xs (nI (5 * j) + 1 : Int32).toNatClampNeg) (xs (nI (5 * j) + 2 : Int32).toNatClampNeg) _ (jm_of (Post := fun _ => True) hJ (fun _ => trivial))) (cwV 2 hts zg_law_zd_X11_of rfl rfl rfl (by decide +kernel) ⟨Nat.le_of_ble_eq_true rfl, Nat.le_of_ble_eq_true rfl⟩) ⟨zCR, va_recv hK h2.1 (ci := 11) (q0 := p_0) rfl hp_0, fun U hU hW => ⟨rfl, by rw [hU]; exact h2.1, hE.warm hW⟩⟩ rfl rfl hl.1 rfl (lv_room (Nat.le_of_ble_eq_true rfl)) dL_law_467 ⟨by show cells + 0 ≤ 600000; omega, by show slots + 0 ≤ 7302250; omega⟩)) (fun r467 _ => ?_)
  refine lv_pop hx hb dL_law_470 rfl ?_
  refine lv_aload_n hx hb dL_law_471 rfl (lv_at hl 1 rfl) ?_
  refine lv_aload_n hx hb dL_law_472 rfl (lv_at hl 3 rfl) ?_
  refine lv_iload_n hx hb dL_law_473 rfl (lv_at hl 0 rfl) ?_
  refine lv_iconst (v := 1) hx hb dL_law_474 (by decide) ?_
  refine lv_iadd hx hb dL_law_475 ?_
  have hin_3 : vp_in (nI (5 * j) + 1) L := by rw [show nI (5 * j) + 1 = nI (5 * j + 1) from nI_add _ 1]; exact vp_in_nI (by omega) (by omega)
  refine va_sld hx hb hX hbl hbA hS hin_3 dL_law_476 ?_
  refine lv_aload_n hx hb dL_law_477 rfl (lv_at hl 3 rfl) ?_
  refine lv_iload_n hx hb dL_law_478 rfl (lv_at hl 0 rfl) ?_
  refine lv_iconst (v := 2) hx hb dL_law_479 (by decide) ?_
  refine lv_iadd hx hb dL_law_480 ?_
  have hin_4 : vp_in (nI (5 * j) + 2) L := by rw [show nI (5 * j) + 2 = nI (5 * j + 2) from nI_add _ 2]; exact vp_in_nI (by omega) (by omega)
  refine va_sld hx hb hX hbl hbA hS hin_4 dL_law_481 ?_
  refine vp_callSi (va_Run.run (va_runV (As := [.int (xs (nI (5 * j) + 1 : Int32).toNatClampNeg), .int (xs (nI (5 * j) + 2 : Int32).toNatClampNeg)]) (rest := []) ⟨hx, hb, hml, hown, hts⟩ (zd_X12_of l D cI cZ cP cF m0 qm Sm (xs (nI (5 * j) + 1 : Int32).toNatClampNeg) (xs (nI (5 * j) + 2 : Int32).toNatClampNeg) _ (mi_of (Post := fun _ => True) hM (fun _ => trivial))) (cwV 2 hts zg_law_zd_X12_of rfl rfl rfl (by decide +kernel) ⟨Nat.le_of_ble_eq_true rfl, Nat.le_of_ble_eq_true rfl⟩) ⟨zBR, va_recv hK h2.2.1 (ci := 12) (q0 := 0) rfl rfl, fun U hU hW => ⟨rfl, by rw [hU]; exact h2.2.1, hE.1.warm hW⟩⟩ rfl rfl hl.1 rfl (lv_room (Nat.le_of_ble_eq_true rfl)) dL_law_482 ⟨by show cells + 0 ≤ 600000; omega, by show slots + 0 ≤ 7302250; omega⟩)) (fun r482 _ => ?_)
  have hM2 := hM
  have hR2 := hR
  refine lv_pop hx hb dL_law_485 rfl ?_
  refine lv_goto (tgt := 634) hx hb dL_law_486 (by decide) ?_
  refine lv_iinc (v := nI (5 * (j + 1))) (lv' := [(3, .int (nI (5 * (j + 1)))), (2, .ref m0), (1, .ref (q 0 0)), (0, .ref bs)]) hx hb dL_law_634 hl (k := 0) rfl (by rw [show 5 * (j + 1) = 5 * j + 5 by omega]; exact nI_add _ 5) (by decide) rfl (fun ls hl => ?_)
  refine lv_goto (tgt := 18) hx hb dL_law_637 (by decide) ?_
  exact ih q S Sm H locs _ _ ls hJ hM2 hR2 h2 hS hcs hl

set_option maxHeartbeats 4000000 in
set_option maxRecDepth 100000 in
theorem zl_13 {p : Program} {e : Env} {s : State} {m : MethodId} {below : List Frame} {meth : Method} {c : Code} (l : Launch) {bs L : Nat} {xs : Nat → Int32} (C0 : lw_At p s m meth c bs L xs) (hL : L ≤ 2560) {A : Nat → Prop} (hA : ∀ q : Nat, s.heap.size ≤ q → A q) (hbA : ¬ A bs) {D : va_G} {cI cZ cP cF : Nat} (hE : zF D cI cZ cP cF s) (hT : zT A s s.heap) {m0 : Nat} {qm : Nat → Nat} {q : Nat → Nat → Nat} {S : CST} {Sm : MST} (hJ : J S) (hM : MI Sm (cnP S)) (hR : FR1 S Sm) {H : Heap} {locs : List Loc} {cells slots : Nat} {ls : Array Slot} (h2 : two D A (cW cI cZ cP cF q S) (mW cI cZ m0 qm Sm) H) (hS : va_S A s.heap H locs) (hcs : cells ≤ 95 + 8 * cnP S + 3 * cnC S ∧ slots ≤ 323715 + 232 * cnP S + 7619 * cnC S) {j : Nat} (hj : 5 * j + 5 ≤ L) (hl : lv_has ls 4 [(3, .int (nI (5 * j))), (2, .ref m0), (1, .ref (q 0 0)), (0, .ref bs)]) (ih : ∀ (q : Nat → Nat → Nat) (S : CST) (Sm : MST) (H : Heap) (locs : List Loc) (cells slots : Nat) (ls : Array Slot), J S → MI Sm (cnP S) → FR1 S Sm → two D A (cW cI cZ cP cF q S) (mW cI cZ m0 qm Sm) H → va_S A s.heap H locs → (cells ≤ 95 + 8 * cnP S + 3 * cnC S ∧ slots ≤ 323715 + 232 * cnP S + 7619 * cnC S) → lv_has ls 4 [(3, .int (nI (5 * (j + 1)))), (2, .ref m0), (1, .ref (q 0 0)), (0, .ref bs)] → W p l e room_1 s m #[Value.ref bs] below meth c H locs cells slots (lw_Z below #[Value.ref bs] s) (F0 m 18 ls [])) : W p l e room_1 s m #[Value.ref bs] below meth c H locs cells slots (lw_Z below #[Value.ref bs] s) (F0 m 489 ls []) := by
  obtain ⟨hx, hb, hr, hml, hown, hts0, hX, hbl, hlocks, hgv⟩ := id C0
  have hts : ∀ w ∈ zw_law, w.before #[Value.ref bs] s = true := fun w h => hts0 w (zw_law_in w h)
  have hown : s.vm.findClass RL = some m.cls := hown
  have hK := hE.k
  have hcap := hJ.cap
  obtain ⟨hcP, hcC⟩ := id hcap
  obtain ⟨hcs1, hcs2⟩ := id hcs
  refine lv_aload_n hx hb dL_law_489 rfl (lv_at hl 2 rfl) ?_
  refine lv_aload_n hx hb dL_law_490 rfl (lv_at hl 3 rfl) ?_
  refine lv_iload_n hx hb dL_law_491 rfl (lv_at hl 0 rfl) ?_
  refine lv_iconst (v := 1) hx hb dL_law_492 (by decide) ?_
  refine lv_iadd hx hb dL_law_493 ?_
  have hin_1 : vp_in (nI (5 * j) + 1) L := by rw [show nI (5 * j) + 1 = nI (5 * j + 1) from nI_add _ 1]; exact vp_in_nI (by omega) (by omega)
  refine va_sld hx hb hX hbl hbA hS hin_1 dL_law_494 ?_
  refine lv_aload_n hx hb dL_law_495 rfl (lv_at hl 3 rfl) ?_
  refine lv_iload_n hx hb dL_law_496 rfl (lv_at hl 0 rfl) ?_
  refine lv_iconst (v := 2) hx hb dL_law_497 (by decide) ?_
  refine lv_iadd hx hb dL_law_498 ?_
  have hin_2 : vp_in (nI (5 * j) + 2) L := by rw [show nI (5 * j) + 2 = nI (5 * j + 2) from nI_add _ 2]; exact vp_in_nI (by omega) (by omega)
  refine va_sld hx hb hX hbl hbA hS hin_2 dL_law_499 ?_
  refine lv_aload_n hx hb dL_law_500 rfl (lv_at hl 3 rfl) ?_
  refine lv_iload_n hx hb dL_law_501 rfl (lv_at hl 0 rfl) ?_
  refine lv_iconst (v := 3) hx hb dL_law_502 (by decide) ?_
  refine lv_iadd hx hb dL_law_503 ?_
  have hin_3 : vp_in (nI (5 * j) + 3) L := by rw [show nI (5 * j) + 3 = nI (5 * j + 3) from nI_add _ 3]; exact vp_in_nI (by omega) (by omega)
  refine va_sld hx hb hX hbl hbA hS hin_3 dL_law_504 ?_
  obtain ⟨p_0, hp_0⟩ := cget_0 cI cZ cP cF q S
  refine vp_callSi (va_Run.run (va_runV (As := [.int (xs (nI (5 * j) + 1 : Int32).toNatClampNeg), .int (xs (nI (5 * j) + 2 : Int32).toNatClampNeg), .int (xs (nI (5 * j) + 3 : Int32).toNatClampNeg)]) (rest := []) ⟨hx, hb, hml, hown, hts⟩ (zd_X11_part l D cI cZ cP cF q S (xs (nI (5 * j) + 1 : Int32).toNatClampNeg) (xs (nI (5 * j) + 2 : Int32).toNatClampNeg) (xs (nI (5 * j) + 3 : Int32).toNatClampNeg) _ (jm_part (Post := fun _ => True) hJ (fun _ => trivial))) (cwV 3 hts zg_law_zd_X11_part rfl rfl rfl (by decide +kernel) ⟨Nat.le_of_ble_eq_true rfl, Nat.le_of_ble_eq_true rfl⟩) ⟨zCR, va_recv hK h2.1 (ci := 11) (q0 := p_0) rfl hp_0, fun U hU hW => ⟨rfl, by rw [hU]; exact h2.1, hE.warm hW⟩⟩ rfl rfl hl.1 rfl (lv_room (Nat.le_of_ble_eq_true rfl)) dL_law_505 ⟨by show cells + 0 ≤ 600000; omega, by show slots + 0 ≤ 7302250; omega⟩)) (fun r505 _ => ?_)
  refine lv_pop hx hb dL_law_508 rfl ?_
  refine lv_aload_n hx hb dL_law_509 rfl (lv_at hl 1 rfl) ?_
  refine lv_aload_n hx hb dL_law_510 rfl (lv_at hl 3 rfl) ?_
  refine lv_iload_n hx hb dL_law_511 rfl (lv_at hl 0 rfl) ?_
  refine lv_iconst (v := 1) hx hb dL_law_512 (by decide) ?_
  refine lv_iadd hx hb dL_law_513 ?_
  have hin_4 : vp_in (nI (5 * j) + 1) L := by rw [show nI (5 * j) + 1 = nI (5 * j + 1) from nI_add _ 1]; exact vp_in_nI (by omega) (by omega)
  refine va_sld hx hb hX hbl hbA hS hin_4 dL_law_514 ?_
  refine lv_aload_n hx hb dL_law_515 rfl (lv_at hl 3 rfl) ?_
  refine lv_iload_n hx hb dL_law_516 rfl (lv_at hl 0 rfl) ?_
  refine lv_iconst (v := 2) hx hb dL_law_517 (by decide) ?_
  refine lv_iadd hx hb dL_law_518 ?_
  have hin_5 : vp_in (nI (5 * j) + 2) L := by rw [show nI (5 * j) + 2 = nI (5 * j + 2) from nI_add _ 2]; exact vp_in_nI (by omega) (by omega)
  refine va_sld hx hb hX hbl hbA hS hin_5 dL_law_519 ?_
  refine lv_aload_n hx hb dL_law_520 rfl (lv_at hl 3 rfl) ?_
  refine lv_iload_n hx hb dL_law_521 rfl (lv_at hl 0 rfl) ?_
  refine lv_iconst (v := 3) hx hb dL_law_522 (by decide) ?_
  refine lv_iadd hx hb dL_law_523 ?_
  have hin_6 : vp_in (nI (5 * j) + 3) L := by rw [show nI (5 * j) + 3 = nI (5 * j + 3) from nI_add _ 3]; exact vp_in_nI (by omega) (by omega)
  refine va_sld hx hb hX hbl hbA hS hin_6 dL_law_524 ?_
  refine vp_callSi (va_Run.run (va_runV (As := [.int (xs (nI (5 * j) + 1 : Int32).toNatClampNeg), .int (xs (nI (5 * j) + 2 : Int32).toNatClampNeg), .int (xs (nI (5 * j) + 3 : Int32).toNatClampNeg)]) (rest := []) ⟨hx, hb, hml, hown, hts⟩ (zd_X12_part_ l D cI cZ cP cF m0 qm Sm (xs (nI (5 * j) + 1 : Int32).toNatClampNeg) (xs (nI (5 * j) + 2 : Int32).toNatClampNeg) (xs (nI (5 * j) + 3 : Int32).toNatClampNeg) _ (mi_part_ (Post := fun _ => True) hM (fun _ => trivial))) (cwV 3 hts zg_law_zd_X12_part_ rfl rfl rfl (by decide +kernel) ⟨Nat.le_of_ble_eq_true rfl, Nat.le_of_ble_eq_true rfl⟩) ⟨zBR, va_recv hK h2.2.1 (ci := 12) (q0 := 0) rfl rfl, fun U hU hW => ⟨rfl, by rw [hU]; exact h2.2.1, hE.1.warm hW⟩⟩ rfl rfl hl.1 rfl (lv_room (Nat.le_of_ble_eq_true rfl)) dL_law_525 ⟨by show cells + 0 ≤ 600000; omega, by show slots + 0 ≤ 7302250; omega⟩)) (fun r525 _ => ?_)
  have hM2 := hM
  have hR2 := hR
  refine lv_pop hx hb dL_law_528 rfl ?_
  refine lv_goto (tgt := 634) hx hb dL_law_529 (by decide) ?_
  refine lv_iinc (v := nI (5 * (j + 1))) (lv' := [(3, .int (nI (5 * (j + 1)))), (2, .ref m0), (1, .ref (q 0 0)), (0, .ref bs)]) hx hb dL_law_634 hl (k := 0) rfl (by rw [show 5 * (j + 1) = 5 * j + 5 by omega]; exact nI_add _ 5) (by decide) rfl (fun ls hl => ?_)
  refine lv_goto (tgt := 18) hx hb dL_law_637 (by decide) ?_
  exact ih q S Sm H locs _ _ ls hJ hM2 hR2 h2 hS hcs hl

set_option maxHeartbeats 4000000 in
set_option maxRecDepth 100000 in
theorem zl_14 {p : Program} {e : Env} {s : State} {m : MethodId} {below : List Frame} {meth : Method} {c : Code} (l : Launch) {bs L : Nat} {xs : Nat → Int32} (C0 : lw_At p s m meth c bs L xs) (hL : L ≤ 2560) {A : Nat → Prop} (hA : ∀ q : Nat, s.heap.size ≤ q → A q) (hbA : ¬ A bs) {D : va_G} {cI cZ cP cF : Nat} (hE : zF D cI cZ cP cF s) (hT : zT A s s.heap) {m0 : Nat} {qm : Nat → Nat} {q : Nat → Nat → Nat} {S : CST} {Sm : MST} (hJ : J S) (hM : MI Sm (cnP S)) (hR : FR1 S Sm) {H : Heap} {locs : List Loc} {cells slots : Nat} {ls : Array Slot} (h2 : two D A (cW cI cZ cP cF q S) (mW cI cZ m0 qm Sm) H) (hS : va_S A s.heap H locs) (hcs : cells ≤ 95 + 8 * cnP S + 3 * cnC S ∧ slots ≤ 323715 + 232 * cnP S + 7619 * cnC S) {j : Nat} (hj : 5 * j + 5 ≤ L) (hl : lv_has ls 4 [(3, .int (nI (5 * j))), (2, .ref m0), (1, .ref (q 0 0)), (0, .ref bs)]) (ih : ∀ (q : Nat → Nat → Nat) (S : CST) (Sm : MST) (H : Heap) (locs : List Loc) (cells slots : Nat) (ls : Array Slot), J S → MI Sm (cnP S) → FR1 S Sm → two D A (cW cI cZ cP cF q S) (mW cI cZ m0 qm Sm) H → va_S A s.heap H locs → (cells ≤ 95 + 8 * cnP S + 3 * cnC S ∧ slots ≤ 323715 + 232 * cnP S + 7619 * cnC S) → lv_has ls 4 [(3, .int (nI (5 * (j + 1)))), (2, .ref m0), (1, .ref (q 0 0)), (0, .ref bs)] → W p l e room_1 s m #[Value.ref bs] below meth c H locs cells slots (lw_Z below #[Value.ref bs] s) (F0 m 18 ls [])) : W p l e room_1 s m #[Value.ref bs] below meth c H locs cells slots (lw_Z below #[Value.ref bs] s) (F0 m 532 ls []) := by
  obtain ⟨hx, hb, hr, hml, hown, hts0, hX, hbl, hlocks, hgv⟩ := id C0
  have hts : ∀ w ∈ zw_law, w.before #[Value.ref bs] s = true := fun w h => hts0 w (zw_law_in w h)
  have hown : s.vm.findClass RL = some m.cls := hown
  have hK := hE.k
  have hcap := hJ.cap
  obtain ⟨hcP, hcC⟩ := id hcap
  obtain ⟨hcs1, hcs2⟩ := id hcs
  refine lv_aload_n hx hb dL_law_532 rfl (lv_at hl 2 rfl) ?_
  refine lv_aload_n hx hb dL_law_533 rfl (lv_at hl 3 rfl) ?_
  refine lv_iload_n hx hb dL_law_534 rfl (lv_at hl 0 rfl) ?_
  refine lv_iconst (v := 1) hx hb dL_law_535 (by decide) ?_
  refine lv_iadd hx hb dL_law_536 ?_
  have hin_1 : vp_in (nI (5 * j) + 1) L := by rw [show nI (5 * j) + 1 = nI (5 * j + 1) from nI_add _ 1]; exact vp_in_nI (by omega) (by omega)
  refine va_sld hx hb hX hbl hbA hS hin_1 dL_law_537 ?_
  refine lv_aload_n hx hb dL_law_538 rfl (lv_at hl 3 rfl) ?_
  refine lv_iload_n hx hb dL_law_539 rfl (lv_at hl 0 rfl) ?_
  refine lv_iconst (v := 2) hx hb dL_law_540 (by decide) ?_
  refine lv_iadd hx hb dL_law_541 ?_
  have hin_2 : vp_in (nI (5 * j) + 2) L := by rw [show nI (5 * j) + 2 = nI (5 * j + 2) from nI_add _ 2]; exact vp_in_nI (by omega) (by omega)
  refine va_sld hx hb hX hbl hbA hS hin_2 dL_law_542 ?_
  obtain ⟨p_0, hp_0⟩ := cget_0 cI cZ cP cF q S
  refine vp_callSi (va_Run.run (va_runV (As := [.int (xs (nI (5 * j) + 1 : Int32).toNatClampNeg), .int (xs (nI (5 * j) + 2 : Int32).toNatClampNeg)]) (rest := []) ⟨hx, hb, hml, hown, hts⟩ (zd_X11_varies l D cI cZ cP cF q S (xs (nI (5 * j) + 1 : Int32).toNatClampNeg) (xs (nI (5 * j) + 2 : Int32).toNatClampNeg) _ (zq_varies hJ hM hR)) (cwV 2 hts zg_law_zd_X11_varies rfl rfl rfl (by decide +kernel) ⟨Nat.le_of_ble_eq_true rfl, Nat.le_of_ble_eq_true rfl⟩) ⟨zCR, va_recv hK h2.1 (ci := 11) (q0 := p_0) rfl hp_0, fun U hU hW => ⟨rfl, by rw [hU]; exact h2.1, hE.warm hW⟩⟩ rfl rfl hl.1 rfl (lv_room (Nat.le_of_ble_eq_true rfl)) dL_law_543 ⟨by show cells + 0 ≤ 600000; omega, by show slots + 0 ≤ 7302250; omega⟩)) (fun r543 hw => ?_)
  refine lv_aload_n hx hb dL_law_546 rfl (lv_at hl 1 rfl) ?_
  refine lv_aload_n hx hb dL_law_547 rfl (lv_at hl 3 rfl) ?_
  refine lv_iload_n hx hb dL_law_548 rfl (lv_at hl 0 rfl) ?_
  refine lv_iconst (v := 1) hx hb dL_law_549 (by decide) ?_
  refine lv_iadd hx hb dL_law_550 ?_
  have hin_3 : vp_in (nI (5 * j) + 1) L := by rw [show nI (5 * j) + 1 = nI (5 * j + 1) from nI_add _ 1]; exact vp_in_nI (by omega) (by omega)
  refine va_sld hx hb hX hbl hbA hS hin_3 dL_law_551 ?_
  refine lv_aload_n hx hb dL_law_552 rfl (lv_at hl 3 rfl) ?_
  refine lv_iload_n hx hb dL_law_553 rfl (lv_at hl 0 rfl) ?_
  refine lv_iconst (v := 2) hx hb dL_law_554 (by decide) ?_
  refine lv_iadd hx hb dL_law_555 ?_
  have hin_4 : vp_in (nI (5 * j) + 2) L := by rw [show nI (5 * j) + 2 = nI (5 * j + 2) from nI_add _ 2]; exact vp_in_nI (by omega) (by omega)
  refine va_sld hx hb hX hbl hbA hS hin_4 dL_law_556 ?_
  refine vp_callSi (va_Run.run (va_runV (As := [.int (xs (nI (5 * j) + 1 : Int32).toNatClampNeg), .int (xs (nI (5 * j) + 2 : Int32).toNatClampNeg)]) (rest := [.int r543]) ⟨hx, hb, hml, hown, hts⟩ (zd_X12_varies l D cI cZ cP cF m0 qm Sm (xs (nI (5 * j) + 1 : Int32).toNatClampNeg) (xs (nI (5 * j) + 2 : Int32).toNatClampNeg) _ hw) (cwV 2 hts zg_law_zd_X12_varies rfl rfl rfl (by decide +kernel) ⟨Nat.le_of_ble_eq_true rfl, Nat.le_of_ble_eq_true rfl⟩) ⟨zBR, va_recv hK h2.2.1 (ci := 12) (q0 := 0) rfl rfl, fun U hU hW => ⟨rfl, by rw [hU]; exact h2.2.1, hE.1.warm hW⟩⟩ rfl rfl hl.1 rfl (lv_room (Nat.le_of_ble_eq_true rfl)) dL_law_557 ⟨by show cells + 0 ≤ 600000; omega, by show slots + 0 ≤ 7302250; omega⟩)) (fun r557 hre => ?_)
  have hM2 := hM
  have hR2 := hR
  refine lv_icmp_eq (tgt := 634) hx hb dL_law_560 (by decide) (fun _ => ?_) (fun c => absurd hre c)
  refine lv_iinc (v := nI (5 * (j + 1))) (lv' := [(3, .int (nI (5 * (j + 1)))), (2, .ref m0), (1, .ref (q 0 0)), (0, .ref bs)]) hx hb dL_law_634 hl (k := 0) rfl (by rw [show 5 * (j + 1) = 5 * j + 5 by omega]; exact nI_add _ 5) (by decide) rfl (fun ls hl => ?_)
  refine lv_goto (tgt := 18) hx hb dL_law_637 (by decide) ?_
  exact ih q S Sm H locs _ _ ls hJ hM2 hR2 h2 hS hcs hl

set_option maxHeartbeats 4000000 in
set_option maxRecDepth 100000 in
theorem zl_15 {p : Program} {e : Env} {s : State} {m : MethodId} {below : List Frame} {meth : Method} {c : Code} (l : Launch) {bs L : Nat} {xs : Nat → Int32} (C0 : lw_At p s m meth c bs L xs) (hL : L ≤ 2560) {A : Nat → Prop} (hA : ∀ q : Nat, s.heap.size ≤ q → A q) (hbA : ¬ A bs) {D : va_G} {cI cZ cP cF : Nat} (hE : zF D cI cZ cP cF s) (hT : zT A s s.heap) {m0 : Nat} {qm : Nat → Nat} {q : Nat → Nat → Nat} {S : CST} {Sm : MST} (hJ : J S) (hM : MI Sm (cnP S)) (hR : FR1 S Sm) {H : Heap} {locs : List Loc} {cells slots : Nat} {ls : Array Slot} (h2 : two D A (cW cI cZ cP cF q S) (mW cI cZ m0 qm Sm) H) (hS : va_S A s.heap H locs) (hcs : cells ≤ 95 + 8 * cnP S + 3 * cnC S ∧ slots ≤ 323715 + 232 * cnP S + 7619 * cnC S) {j : Nat} (hj : 5 * j + 5 ≤ L) (hl : lv_has ls 4 [(3, .int (nI (5 * j))), (2, .ref m0), (1, .ref (q 0 0)), (0, .ref bs)]) (ih : ∀ (q : Nat → Nat → Nat) (S : CST) (Sm : MST) (H : Heap) (locs : List Loc) (cells slots : Nat) (ls : Array Slot), J S → MI Sm (cnP S) → FR1 S Sm → two D A (cW cI cZ cP cF q S) (mW cI cZ m0 qm Sm) H → va_S A s.heap H locs → (cells ≤ 95 + 8 * cnP S + 3 * cnC S ∧ slots ≤ 323715 + 232 * cnP S + 7619 * cnC S) → lv_has ls 4 [(3, .int (nI (5 * (j + 1)))), (2, .ref m0), (1, .ref (q 0 0)), (0, .ref bs)] → W p l e room_1 s m #[Value.ref bs] below meth c H locs cells slots (lw_Z below #[Value.ref bs] s) (F0 m 18 ls [])) : W p l e room_1 s m #[Value.ref bs] below meth c H locs cells slots (lw_Z below #[Value.ref bs] s) (F0 m 565 ls []) := by
  obtain ⟨hx, hb, hr, hml, hown, hts0, hX, hbl, hlocks, hgv⟩ := id C0
  have hts : ∀ w ∈ zw_law, w.before #[Value.ref bs] s = true := fun w h => hts0 w (zw_law_in w h)
  have hown : s.vm.findClass RL = some m.cls := hown
  have hK := hE.k
  have hcap := hJ.cap
  obtain ⟨hcP, hcC⟩ := id hcap
  obtain ⟨hcs1, hcs2⟩ := id hcs
  refine lv_aload_n hx hb dL_law_565 rfl (lv_at hl 2 rfl) ?_
  refine lv_aload_n hx hb dL_law_566 rfl (lv_at hl 3 rfl) ?_
  refine lv_iload_n hx hb dL_law_567 rfl (lv_at hl 0 rfl) ?_
  refine lv_iconst (v := 1) hx hb dL_law_568 (by decide) ?_
  refine lv_iadd hx hb dL_law_569 ?_
  have hin_1 : vp_in (nI (5 * j) + 1) L := by rw [show nI (5 * j) + 1 = nI (5 * j + 1) from nI_add _ 1]; exact vp_in_nI (by omega) (by omega)
  refine va_sld hx hb hX hbl hbA hS hin_1 dL_law_570 ?_
  refine lv_aload_n hx hb dL_law_571 rfl (lv_at hl 3 rfl) ?_
  refine lv_iload_n hx hb dL_law_572 rfl (lv_at hl 0 rfl) ?_
  refine lv_iconst (v := 2) hx hb dL_law_573 (by decide) ?_
  refine lv_iadd hx hb dL_law_574 ?_
  have hin_2 : vp_in (nI (5 * j) + 2) L := by rw [show nI (5 * j) + 2 = nI (5 * j + 2) from nI_add _ 2]; exact vp_in_nI (by omega) (by omega)
  refine va_sld hx hb hX hbl hbA hS hin_2 dL_law_575 ?_
  obtain ⟨p_0, hp_0⟩ := cget_0 cI cZ cP cF q S
  refine vp_callSi (va_Run.run (va_runV (As := [.int (xs (nI (5 * j) + 1 : Int32).toNatClampNeg), .int (xs (nI (5 * j) + 2 : Int32).toNatClampNeg)]) (rest := []) ⟨hx, hb, hml, hown, hts⟩ (zd_X11_depth l D cI cZ cP cF q S (xs (nI (5 * j) + 1 : Int32).toNatClampNeg) (xs (nI (5 * j) + 2 : Int32).toNatClampNeg) _ (jm_depth (Post := fun _ => True) hJ (fun _ => trivial))) (cwV 2 hts zg_law_zd_X11_depth rfl rfl rfl (by decide +kernel) ⟨Nat.le_of_ble_eq_true rfl, Nat.le_of_ble_eq_true rfl⟩) ⟨zCR, va_recv hK h2.1 (ci := 11) (q0 := p_0) rfl hp_0, fun U hU hW => ⟨rfl, by rw [hU]; exact h2.1, hE.warm hW⟩⟩ rfl rfl hl.1 rfl (lv_room (Nat.le_of_ble_eq_true rfl)) dL_law_576 ⟨by show cells + 0 ≤ 600000; omega, by show slots + 0 ≤ 7302250; omega⟩)) (fun r576 _ => ?_)
  refine lv_pop hx hb dL_law_579 rfl ?_
  refine lv_aload_n hx hb dL_law_580 rfl (lv_at hl 1 rfl) ?_
  refine lv_aload_n hx hb dL_law_581 rfl (lv_at hl 3 rfl) ?_
  refine lv_iload_n hx hb dL_law_582 rfl (lv_at hl 0 rfl) ?_
  refine lv_iconst (v := 1) hx hb dL_law_583 (by decide) ?_
  refine lv_iadd hx hb dL_law_584 ?_
  have hin_3 : vp_in (nI (5 * j) + 1) L := by rw [show nI (5 * j) + 1 = nI (5 * j + 1) from nI_add _ 1]; exact vp_in_nI (by omega) (by omega)
  refine va_sld hx hb hX hbl hbA hS hin_3 dL_law_585 ?_
  refine lv_aload_n hx hb dL_law_586 rfl (lv_at hl 3 rfl) ?_
  refine lv_iload_n hx hb dL_law_587 rfl (lv_at hl 0 rfl) ?_
  refine lv_iconst (v := 2) hx hb dL_law_588 (by decide) ?_
  refine lv_iadd hx hb dL_law_589 ?_
  have hin_4 : vp_in (nI (5 * j) + 2) L := by rw [show nI (5 * j) + 2 = nI (5 * j + 2) from nI_add _ 2]; exact vp_in_nI (by omega) (by omega)
  refine va_sld hx hb hX hbl hbA hS hin_4 dL_law_590 ?_
  refine vp_callSi (va_Run.run (va_runV (As := [.int (xs (nI (5 * j) + 1 : Int32).toNatClampNeg), .int (xs (nI (5 * j) + 2 : Int32).toNatClampNeg)]) (rest := []) ⟨hx, hb, hml, hown, hts⟩ (zd_X12_depth l D cI cZ cP cF m0 qm Sm (xs (nI (5 * j) + 1 : Int32).toNatClampNeg) (xs (nI (5 * j) + 2 : Int32).toNatClampNeg) _ (mi_depth (Post := fun _ => True) hM (fun _ => trivial))) (cwV 2 hts zg_law_zd_X12_depth rfl rfl rfl (by decide +kernel) ⟨Nat.le_of_ble_eq_true rfl, Nat.le_of_ble_eq_true rfl⟩) ⟨zBR, va_recv hK h2.2.1 (ci := 12) (q0 := 0) rfl rfl, fun U hU hW => ⟨rfl, by rw [hU]; exact h2.2.1, hE.1.warm hW⟩⟩ rfl rfl hl.1 rfl (lv_room (Nat.le_of_ble_eq_true rfl)) dL_law_591 ⟨by show cells + 0 ≤ 600000; omega, by show slots + 0 ≤ 7302250; omega⟩)) (fun r591 _ => ?_)
  have hM2 := hM
  have hR2 := hR
  refine lv_pop hx hb dL_law_594 rfl ?_
  refine lv_goto (tgt := 634) hx hb dL_law_595 (by decide) ?_
  refine lv_iinc (v := nI (5 * (j + 1))) (lv' := [(3, .int (nI (5 * (j + 1)))), (2, .ref m0), (1, .ref (q 0 0)), (0, .ref bs)]) hx hb dL_law_634 hl (k := 0) rfl (by rw [show 5 * (j + 1) = 5 * j + 5 by omega]; exact nI_add _ 5) (by decide) rfl (fun ls hl => ?_)
  refine lv_goto (tgt := 18) hx hb dL_law_637 (by decide) ?_
  exact ih q S Sm H locs _ _ ls hJ hM2 hR2 h2 hS hcs hl

set_option maxHeartbeats 4000000 in
set_option maxRecDepth 100000 in
theorem zl_16 {p : Program} {e : Env} {s : State} {m : MethodId} {below : List Frame} {meth : Method} {c : Code} (l : Launch) {bs L : Nat} {xs : Nat → Int32} (C0 : lw_At p s m meth c bs L xs) (hL : L ≤ 2560) {A : Nat → Prop} (hA : ∀ q : Nat, s.heap.size ≤ q → A q) (hbA : ¬ A bs) {D : va_G} {cI cZ cP cF : Nat} (hE : zF D cI cZ cP cF s) (hT : zT A s s.heap) {m0 : Nat} {qm : Nat → Nat} {q : Nat → Nat → Nat} {S : CST} {Sm : MST} (hJ : J S) (hM : MI Sm (cnP S)) (hR : FR1 S Sm) {H : Heap} {locs : List Loc} {cells slots : Nat} {ls : Array Slot} (h2 : two D A (cW cI cZ cP cF q S) (mW cI cZ m0 qm Sm) H) (hS : va_S A s.heap H locs) (hcs : cells ≤ 95 + 8 * cnP S + 3 * cnC S ∧ slots ≤ 323715 + 232 * cnP S + 7619 * cnC S) {j : Nat} (hj : 5 * j + 5 ≤ L) (hl : lv_has ls 4 [(3, .int (nI (5 * j))), (2, .ref m0), (1, .ref (q 0 0)), (0, .ref bs)]) (ih : ∀ (q : Nat → Nat → Nat) (S : CST) (Sm : MST) (H : Heap) (locs : List Loc) (cells slots : Nat) (ls : Array Slot), J S → MI Sm (cnP S) → FR1 S Sm → two D A (cW cI cZ cP cF q S) (mW cI cZ m0 qm Sm) H → va_S A s.heap H locs → (cells ≤ 95 + 8 * cnP S + 3 * cnC S ∧ slots ≤ 323715 + 232 * cnP S + 7619 * cnC S) → lv_has ls 4 [(3, .int (nI (5 * (j + 1)))), (2, .ref m0), (1, .ref (q 0 0)), (0, .ref bs)] → W p l e room_1 s m #[Value.ref bs] below meth c H locs cells slots (lw_Z below #[Value.ref bs] s) (F0 m 18 ls [])) : W p l e room_1 s m #[Value.ref bs] below meth c H locs cells slots (lw_Z below #[Value.ref bs] s) (F0 m 598 ls []) := by
  obtain ⟨hx, hb, hr, hml, hown, hts0, hX, hbl, hlocks, hgv⟩ := id C0
  have hts : ∀ w ∈ zw_law, w.before #[Value.ref bs] s = true := fun w h => hts0 w (zw_law_in w h)
  have hown : s.vm.findClass RL = some m.cls := hown
  have hK := hE.k
  have hcap := hJ.cap
  obtain ⟨hcP, hcC⟩ := id hcap
  obtain ⟨hcs1, hcs2⟩ := id hcs
  refine lv_aload_n hx hb dL_law_598 rfl (lv_at hl 2 rfl) ?_
  refine lv_aload_n hx hb dL_law_599 rfl (lv_at hl 3 rfl) ?_
  refine lv_iload_n hx hb dL_law_600 rfl (lv_at hl 0 rfl) ?_
  refine lv_iconst (v := 1) hx hb dL_law_601 (by decide) ?_
  refine lv_iadd hx hb dL_law_602 ?_
  have hin_1 : vp_in (nI (5 * j) + 1) L := by rw [show nI (5 * j) + 1 = nI (5 * j + 1) from nI_add _ 1]; exact vp_in_nI (by omega) (by omega)
  refine va_sld hx hb hX hbl hbA hS hin_1 dL_law_603 ?_
  obtain ⟨p_0, hp_0⟩ := cget_0 cI cZ cP cF q S
  refine vp_callSi (va_Run.run (va_runV (As := [.int (xs (nI (5 * j) + 1 : Int32).toNatClampNeg)]) (rest := []) ⟨hx, hb, hml, hown, hts⟩ (zd_X11_count l D cI cZ cP cF q S (xs (nI (5 * j) + 1 : Int32).toNatClampNeg) _ (jm_count (Post := fun _ => True) (fun _ => trivial))) (cwV 1 hts zg_law_zd_X11_count rfl rfl rfl (by decide +kernel) ⟨Nat.le_of_ble_eq_true rfl, Nat.le_of_ble_eq_true rfl⟩) ⟨zCR, va_recv hK h2.1 (ci := 11) (q0 := p_0) rfl hp_0, fun U hU hW => ⟨rfl, by rw [hU]; exact h2.1, hE.warm hW⟩⟩ rfl rfl hl.1 rfl (lv_room (Nat.le_of_ble_eq_true rfl)) dL_law_604 ⟨by show cells + 0 ≤ 600000; omega, by show slots + 0 ≤ 7302250; omega⟩)) (fun r604 _ => ?_)
  refine lv_pop hx hb dL_law_607 rfl ?_
  refine lv_aload_n hx hb dL_law_608 rfl (lv_at hl 1 rfl) ?_
  refine lv_aload_n hx hb dL_law_609 rfl (lv_at hl 3 rfl) ?_
  refine lv_iload_n hx hb dL_law_610 rfl (lv_at hl 0 rfl) ?_
  refine lv_iconst (v := 1) hx hb dL_law_611 (by decide) ?_
  refine lv_iadd hx hb dL_law_612 ?_
  have hin_2 : vp_in (nI (5 * j) + 1) L := by rw [show nI (5 * j) + 1 = nI (5 * j + 1) from nI_add _ 1]; exact vp_in_nI (by omega) (by omega)
  refine va_sld hx hb hX hbl hbA hS hin_2 dL_law_613 ?_
  refine vp_callSi (va_Run.run (va_runV (As := [.int (xs (nI (5 * j) + 1 : Int32).toNatClampNeg)]) (rest := []) ⟨hx, hb, hml, hown, hts⟩ (zd_X12_count l D cI cZ cP cF m0 qm Sm (xs (nI (5 * j) + 1 : Int32).toNatClampNeg) _ (sp_count (Post := fun _ => True) (fun _ => trivial))) (cwV 1 hts zg_law_zd_X12_count rfl rfl rfl (by decide +kernel) ⟨Nat.le_of_ble_eq_true rfl, Nat.le_of_ble_eq_true rfl⟩) ⟨zBR, va_recv hK h2.2.1 (ci := 12) (q0 := 0) rfl rfl, fun U hU hW => ⟨rfl, by rw [hU]; exact h2.2.1, hE.1.warm hW⟩⟩ rfl rfl hl.1 rfl (lv_room (Nat.le_of_ble_eq_true rfl)) dL_law_614 ⟨by show cells + 0 ≤ 600000; omega, by show slots + 0 ≤ 7302250; omega⟩)) (fun r614 _ => ?_)
  have hM2 := hM
  have hR2 := hR
  refine lv_pop hx hb dL_law_617 rfl ?_
  refine lv_goto (tgt := 634) hx hb dL_law_618 (by decide) ?_
  refine lv_iinc (v := nI (5 * (j + 1))) (lv' := [(3, .int (nI (5 * (j + 1)))), (2, .ref m0), (1, .ref (q 0 0)), (0, .ref bs)]) hx hb dL_law_634 hl (k := 0) rfl (by rw [show 5 * (j + 1) = 5 * j + 5 by omega]; exact nI_add _ 5) (by decide) rfl (fun ls hl => ?_)
  refine lv_goto (tgt := 18) hx hb dL_law_637 (by decide) ?_
  exact ih q S Sm H locs _ _ ls hJ hM2 hR2 h2 hS hcs hl

set_option maxHeartbeats 4000000 in
set_option maxRecDepth 100000 in
theorem zl_17 {p : Program} {e : Env} {s : State} {m : MethodId} {below : List Frame} {meth : Method} {c : Code} (l : Launch) {bs L : Nat} {xs : Nat → Int32} (C0 : lw_At p s m meth c bs L xs) (hL : L ≤ 2560) {A : Nat → Prop} (hA : ∀ q : Nat, s.heap.size ≤ q → A q) (hbA : ¬ A bs) {D : va_G} {cI cZ cP cF : Nat} (hE : zF D cI cZ cP cF s) (hT : zT A s s.heap) {m0 : Nat} {qm : Nat → Nat} {q : Nat → Nat → Nat} {S : CST} {Sm : MST} (hJ : J S) (hM : MI Sm (cnP S)) (hR : FR1 S Sm) {H : Heap} {locs : List Loc} {cells slots : Nat} {ls : Array Slot} (h2 : two D A (cW cI cZ cP cF q S) (mW cI cZ m0 qm Sm) H) (hS : va_S A s.heap H locs) (hcs : cells ≤ 95 + 8 * cnP S + 3 * cnC S ∧ slots ≤ 323715 + 232 * cnP S + 7619 * cnC S) {j : Nat} (hj : 5 * j + 5 ≤ L) (hl : lv_has ls 4 [(3, .int (nI (5 * j))), (2, .ref m0), (1, .ref (q 0 0)), (0, .ref bs)]) (ih : ∀ (q : Nat → Nat → Nat) (S : CST) (Sm : MST) (H : Heap) (locs : List Loc) (cells slots : Nat) (ls : Array Slot), J S → MI Sm (cnP S) → FR1 S Sm → two D A (cW cI cZ cP cF q S) (mW cI cZ m0 qm Sm) H → va_S A s.heap H locs → (cells ≤ 95 + 8 * cnP S + 3 * cnC S ∧ slots ≤ 323715 + 232 * cnP S + 7619 * cnC S) → lv_has ls 4 [(3, .int (nI (5 * (j + 1)))), (2, .ref m0), (1, .ref (q 0 0)), (0, .ref bs)] → W p l e room_1 s m #[Value.ref bs] below meth c H locs cells slots (lw_Z below #[Value.ref bs] s) (F0 m 18 ls [])) : W p l e room_1 s m #[Value.ref bs] below meth c H locs cells slots (lw_Z below #[Value.ref bs] s) (F0 m 621 ls []) := by
  obtain ⟨hx, hb, hr, hml, hown, hts0, hX, hbl, hlocks, hgv⟩ := id C0
  have hts : ∀ w ∈ zw_law, w.before #[Value.ref bs] s = true := fun w h => hts0 w (zw_law_in w h)
  have hown : s.vm.findClass RL = some m.cls := hown
  have hK := hE.k
  have hcap := hJ.cap
  obtain ⟨hcP, hcC⟩ := id hcap
  obtain ⟨hcs1, hcs2⟩ := id hcs
  refine lv_aload_n hx hb dL_law_621 rfl (lv_at hl 2 rfl) ?_
  obtain ⟨p_0, hp_0⟩ := cget_0 cI cZ cP cF q S
  refine vp_callSl (va_Run.run (va_runV (As := []) (rest := []) ⟨hx, hb, hml, hown, hts⟩ (zd_X11_digest l D cI cZ cP cF q S  _ (jm_digest (Post := fun _ => True) hJ (fun _ => trivial))) (cwV 0 hts zg_law_zd_X11_digest rfl rfl rfl (by decide +kernel) ⟨Nat.le_of_ble_eq_true rfl, Nat.le_of_ble_eq_true rfl⟩) ⟨zCR, va_recv hK h2.1 (ci := 11) (q0 := p_0) rfl hp_0, fun U hU hW => ⟨rfl, by rw [hU]; exact h2.1, hE.warm hW⟩⟩ rfl rfl hl.1 rfl (lv_room (Nat.le_of_ble_eq_true rfl)) dL_law_622 ⟨by show cells + 0 ≤ 600000; omega, by show slots + 0 ≤ 7302250; omega⟩)) (fun r622 _ => ?_)
  refine lv_pop2_2 hx hb dL_law_625 rfl ?_
  refine lv_aload_n hx hb dL_law_626 rfl (lv_at hl 1 rfl) ?_
  refine vp_callSl (va_Run.run (va_runV (As := []) (rest := []) ⟨hx, hb, hml, hown, hts⟩ (zd_X12_digest l D cI cZ cP cF m0 qm Sm  _ (mi_digest (Post := fun _ => True) hM (fun _ => trivial))) (cwV 0 hts zg_law_zd_X12_digest rfl rfl rfl (by decide +kernel) ⟨Nat.le_of_ble_eq_true rfl, Nat.le_of_ble_eq_true rfl⟩) ⟨zBR, va_recv hK h2.2.1 (ci := 12) (q0 := 0) rfl rfl, fun U hU hW => ⟨rfl, by rw [hU]; exact h2.2.1, hE.1.warm hW⟩⟩ rfl rfl hl.1 rfl (lv_room (Nat.le_of_ble_eq_true rfl)) dL_law_627 ⟨by show cells + 0 ≤ 600000; omega, by show slots + 0 ≤ 7302250; omega⟩)) (fun r627 _ => ?_)
  have hM2 := hM
  have hR2 := hR
  refine lv_pop2_2 hx hb dL_law_630 rfl ?_
  refine lv_goto (tgt := 634) hx hb dL_law_631 (by decide) ?_
  refine lv_iinc (v := nI (5 * (j + 1))) (lv' := [(3, .int (nI (5 * (j + 1)))), (2, .ref m0), (1, .ref (q 0 0)), (0, .ref bs)]) hx hb dL_law_634 hl (k := 0) rfl (by rw [show 5 * (j + 1) = 5 * j + 5 by omega]; exact nI_add _ 5) (by decide) rfl (fun ls hl => ?_)
  refine lv_goto (tgt := 18) hx hb dL_law_637 (by decide) ?_
  exact ih q S Sm H locs _ _ ls hJ hM2 hR2 h2 hS hcs hl
set_option maxHeartbeats 4000000 in
set_option maxRecDepth 100000 in
theorem zl_loop {p : Program} {e : Env} {s : State} {m : MethodId} {below : List Frame} {meth : Method} {c : Code} (l : Launch) {bs L : Nat} {xs : Nat → Int32} (C0 : lw_At p s m meth c bs L xs) (hL : L ≤ 2560) {A : Nat → Prop} (hA : ∀ q : Nat, s.heap.size ≤ q → A q) (hbA : ¬ A bs) (hfin : ∀ q : Nat, A q → s.heap.size ≤ q) {D : va_G} {cI cZ cP cF : Nat} (hE : zF D cI cZ cP cF s) (hT : zT A s s.heap) {m0 : Nat} {qm : Nat → Nat} : ∀ (n j : Nat), L < 5 * j + 5 * n + 5 → j + n ≤ 513 → ∀ (q : Nat → Nat → Nat) (S : CST) (Sm : MST) (H : Heap) (locs : List Loc) (cells slots : Nat) (ls : Array Slot), J S → MI Sm (cnP S) → FR1 S Sm → two D A (cW cI cZ cP cF q S) (mW cI cZ m0 qm Sm) H → va_S A s.heap H locs → (cells ≤ 95 + 8 * cnP S + 3 * cnC S ∧ slots ≤ 323715 + 232 * cnP S + 7619 * cnC S) → lv_has ls 4 [(3, .int (nI (5 * j))), (2, .ref m0), (1, .ref (q 0 0)), (0, .ref bs)] → W p l e room_1 s m #[Value.ref bs] below meth c H locs cells slots (lw_Z below #[Value.ref bs] s) (F0 m 18 ls []) := by
  intro n
  induction n with
  | zero =>
    intro j hn hjn q S Sm H locs cells slots ls hJ hM hR h2 hS hcs hl
    obtain ⟨hx, hb, hr, hml, hown, hts0, hX, hbl, hlocks, hgv⟩ := id C0
    have hcap := hJ.cap
    obtain ⟨hcP, hcC⟩ := id hcap
    obtain ⟨hcs1, hcs2⟩ := id hcs
    refine lv_iload_n hx hb dL_law_18 rfl (lv_at hl 0 rfl) ?_
    refine lv_aload_n hx hb dL_law_19 rfl (lv_at hl 3 rfl) ?_
    refine va_slen hx hb hX hbl hbA hS dL_law_20 ?_
    refine lv_iconst (v := 5) hx hb dL_law_21 (by decide) ?_
    refine lv_isub hx hb dL_law_22 ?_
    by_cases h5 : L < 5 * j + 5
    · refine lv_icmp_gt (tgt := 640) hx hb dL_law_23 (by decide) (fun _ => ?_) (fun c => absurd (z_len h5 hL (by omega)) c)
      exact zl_end l C0 hfin (by omega) (by omega) hS
    · omega
  | succ n ih =>
    intro j hn hjn q S Sm H locs cells slots ls hJ hM hR h2 hS hcs hl
    obtain ⟨hx, hb, hr, hml, hown, hts0, hX, hbl, hlocks, hgv⟩ := id C0
    have hcap := hJ.cap
    obtain ⟨hcP, hcC⟩ := id hcap
    obtain ⟨hcs1, hcs2⟩ := id hcs
    refine lv_iload_n hx hb dL_law_18 rfl (lv_at hl 0 rfl) ?_
    refine lv_aload_n hx hb dL_law_19 rfl (lv_at hl 3 rfl) ?_
    refine va_slen hx hb hX hbl hbA hS dL_law_20 ?_
    refine lv_iconst (v := 5) hx hb dL_law_21 (by decide) ?_
    refine lv_isub hx hb dL_law_22 ?_
    by_cases h5 : L < 5 * j + 5
    · refine lv_icmp_gt (tgt := 640) hx hb dL_law_23 (by decide) (fun _ => ?_) (fun c => absurd (z_len h5 hL (by omega)) c)
      exact zl_end l C0 hfin (by omega) (by omega) hS
    · refine lv_icmp_gt (tgt := 640) hx hb dL_law_23 (by decide) (fun c => absurd c (z_len2 (by omega) hL)) (fun _ => ?_)
      have hj5 : 5 * j + 5 ≤ L := by omega
      refine lv_aload_n hx hb dL_law_26 rfl (lv_at hl 3 rfl) ?_
      refine lv_iload_n hx hb dL_law_27 rfl (lv_at hl 0 rfl) ?_
      have hin : vp_in (nI (5 * j)) L := vp_in_nI (by omega) (by omega)
      refine va_sld hx hb hX hbl hbA hS hin dL_law_28 ?_
      refine lv_bipush (v := 31) hx hb dL_law_29 (by decide) ?_
      refine lv_iand hx hb dL_law_31 ?_
      refine lv_topi (fun x9 _ => ?_)
      have ih1 := ih (j + 1) (by omega) (by omega)
      rcases zt_0_17 x9 with h_out | h_in | h_in | h_in | h_in | h_in | h_in | h_in | h_in | h_in | h_in | h_in | h_in | h_in | h_in | h_in | h_in | h_in | h_in
      · refine lv_tableOut (tgt := 634) hx hb dL_law_32 h_out (by decide) ?_
        refine lv_iinc (v := nI (5 * (j + 1))) (lv' := [(3, .int (nI (5 * (j + 1)))), (2, .ref m0), (1, .ref (q 0 0)), (0, .ref bs)]) hx hb dL_law_634 hl (k := 0) rfl (by rw [show 5 * (j + 1) = 5 * j + 5 by omega]; exact nI_add _ 5) (by decide) rfl (fun ls hl => ?_)
        refine lv_goto (tgt := 18) hx hb dL_law_637 (by decide) ?_
        exact ih1 q S Sm H locs cells slots ls hJ hM hR h2 hS hcs hl
      · refine lv_tableIn (off := 88) (tgt := 120) hx hb dL_law_32 (by rw [h_in]; decide) (by rw [h_in]; decide) (by rw [h_in]; decide) (by decide) ?_
        exact zl_0 l C0 hL hA hbA hE hT hJ hM hR h2 hS hcs hj5 hl ih1
      · refine lv_tableIn (off := 121) (tgt := 153) hx hb dL_law_32 (by rw [h_in]; decide) (by rw [h_in]; decide) (by rw [h_in]; decide) (by decide) ?_
        exact zl_1 l C0 hL hA hbA hE hT hJ hM hR h2 hS hcs hj5 hl ih1
      · refine lv_tableIn (off := 164) (tgt := 196) hx hb dL_law_32 (by rw [h_in]; decide) (by rw [h_in]; decide) (by rw [h_in]; decide) (by decide) ?_
        exact zl_2 l C0 hL hA hbA hE hT hJ hM hR h2 hS hcs hj5 hl ih1
      · refine lv_tableIn (off := 187) (tgt := 219) hx hb dL_law_32 (by rw [h_in]; decide) (by rw [h_in]; decide) (by rw [h_in]; decide) (by decide) ?_
        exact zl_3 l C0 hL hA hbA hE hT hJ hM hR h2 hS hcs hj5 hl ih1
      · refine lv_tableIn (off := 200) (tgt := 232) hx hb dL_law_32 (by rw [h_in]; decide) (by rw [h_in]; decide) (by rw [h_in]; decide) (by decide) ?_
        exact zl_4 l C0 hL hA hbA hE hT hJ hM hR h2 hS hcs hj5 hl ih1
      · refine lv_tableIn (off := 233) (tgt := 265) hx hb dL_law_32 (by rw [h_in]; decide) (by rw [h_in]; decide) (by rw [h_in]; decide) (by decide) ?_
        exact zl_5 l C0 hL hA hbA hE hT hJ hM hR h2 hS hcs hj5 hl ih1
      · refine lv_tableIn (off := 256) (tgt := 288) hx hb dL_law_32 (by rw [h_in]; decide) (by rw [h_in]; decide) (by rw [h_in]; decide) (by decide) ?_
        exact zl_6 l C0 hL hA hbA hE hT hJ hM hR h2 hS hcs hj5 hl ih1
      · refine lv_tableIn (off := 279) (tgt := 311) hx hb dL_law_32 (by rw [h_in]; decide) (by rw [h_in]; decide) (by rw [h_in]; decide) (by decide) ?_
        exact zl_7 l C0 hL hA hbA hE hT hJ hM hR h2 hS hcs hj5 hl ih1
      · refine lv_tableIn (off := 302) (tgt := 334) hx hb dL_law_32 (by rw [h_in]; decide) (by rw [h_in]; decide) (by rw [h_in]; decide) (by decide) ?_
        exact zl_8 l C0 hL hA hbA hE hT hJ hM hR h2 hS hcs hj5 hl ih1
      · refine lv_tableIn (off := 335) (tgt := 367) hx hb dL_law_32 (by rw [h_in]; decide) (by rw [h_in]; decide) (by rw [h_in]; decide) (by decide) ?_
        exact zl_9 l C0 hL hA hbA hE hT hJ hM hR h2 hS hcs hj5 hl ih1
      · refine lv_tableIn (off := 388) (tgt := 420) hx hb dL_law_32 (by rw [h_in]; decide) (by rw [h_in]; decide) (by rw [h_in]; decide) (by decide) ?_
        exact zl_10 l C0 hL hA hbA hE hT hJ hM hR h2 hS hcs hj5 hl ih1
      · refine lv_tableIn (off := 401) (tgt := 433) hx hb dL_law_32 (by rw [h_in]; decide) (by rw [h_in]; decide) (by rw [h_in]; decide) (by decide) ?_
        exact zl_11 l C0 hL hA hbA hE hT hJ hM hR h2 hS hcs hj5 hl ih1
      · refine lv_tableIn (off := 424) (tgt := 456) hx hb dL_law_32 (by rw [h_in]; decide) (by rw [h_in]; decide) (by rw [h_in]; decide) (by decide) ?_
        exact zl_12 l C0 hL hA hbA hE hT hJ hM hR h2 hS hcs hj5 hl ih1
      · refine lv_tableIn (off := 457) (tgt := 489) hx hb dL_law_32 (by rw [h_in]; decide) (by rw [h_in]; decide) (by rw [h_in]; decide) (by decide) ?_
        exact zl_13 l C0 hL hA hbA hE hT hJ hM hR h2 hS hcs hj5 hl ih1
      · refine lv_tableIn (off := 500) (tgt := 532) hx hb dL_law_32 (by rw [h_in]; decide) (by rw [h_in]; decide) (by rw [h_in]; decide) (by decide) ?_
        exact zl_14 l C0 hL hA hbA hE hT hJ hM hR h2 hS hcs hj5 hl ih1
      · refine lv_tableIn (off := 533) (tgt := 565) hx hb dL_law_32 (by rw [h_in]; decide) (by rw [h_in]; decide) (by rw [h_in]; decide) (by decide) ?_
        exact zl_15 l C0 hL hA hbA hE hT hJ hM hR h2 hS hcs hj5 hl ih1
      · refine lv_tableIn (off := 566) (tgt := 598) hx hb dL_law_32 (by rw [h_in]; decide) (by rw [h_in]; decide) (by rw [h_in]; decide) (by decide) ?_
        exact zl_16 l C0 hL hA hbA hE hT hJ hM hR h2 hS hcs hj5 hl ih1
      · refine lv_tableIn (off := 589) (tgt := 621) hx hb dL_law_32 (by rw [h_in]; decide) (by rw [h_in]; decide) (by rw [h_in]; decide) (by decide) ?_
        exact zl_17 l C0 hL hA hbA hE hT hJ hM hR h2 hS hcs hj5 hl ih1
