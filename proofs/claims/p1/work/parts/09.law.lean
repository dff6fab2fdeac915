theorem zl_end {p : Program} {e : Env} {s : State} {m : MethodId} {below : List Frame} {meth : Method} {c : Code} (l : Launch) {bs L : Nat} {xs : Nat → Int32} (C0 : lw_At p s m meth c bs L xs) {A : Nat → Prop} (hfin : ∀ q : Nat, A q → s.heap.size ≤ q) {H : Heap} {locs : List Loc} {cells slots : Nat} {ls : Array Slot} (hc : cells ≤ 600000) (hs : slots ≤ 7302250) (hS : va_S A s.heap H locs) : W p l e room_1 s m #[Value.ref bs] below meth c H locs cells slots (lw_Z below #[Value.ref bs] s) (F0 m 641 ls []) := by
  obtain ⟨hx, hb, hr, hml, hown, hts, hX, hbl, hlocks, hgv⟩ := C0
  refine lv_iconst (v := 1) hx hb dL_law_641 (by decide) ?_
  refine va_forget (fun q hq => hfin _ (hS.2.2 q hq)) ?_
  refine W.widen (k := 600000) (n := 7302250) hc hs ?_
  exact lw_ret hx hb hr hlocks dL_law_642
theorem zl_tail {p : Program} {e : Env} {s : State} {m : MethodId} {below : List Frame} {meth : Method} {c : Code} (l : Launch) {bs : Nat} {xs : Nat → Int32} (C0 : lw_At p s m meth c bs 5 xs) {A : Nat → Prop} (hA : ∀ q : Nat, s.heap.size ≤ q → A q) (hbA : ¬ A bs) (hfin : ∀ q : Nat, A q → s.heap.size ≤ q) {H : Heap} {locs : List Loc} {cells slots : Nat} {ls : Array Slot} (hc : cells ≤ 600000) (hs : slots ≤ 7302250) (hS : va_S A s.heap H locs) (hl : lv_has ls 4 [(3, .int 0), (0, .ref bs)]) : W p l e room_1 s m #[Value.ref bs] below meth c H locs cells slots (lw_Z below #[Value.ref bs] s) (F0 m 635 ls []) := by
  obtain ⟨hx, hb, hr, hml, hown, hts, hX, hbl, hlocks, hgv⟩ := id C0
  refine lv_iinc (v := 5) (lv' := [(3, .int 5), (0, .ref bs)]) hx hb dL_law_635 hl (k := 0) rfl (by decide) (by decide) rfl (fun ls hl => ?_)
  refine lv_goto (tgt := 18) hx hb dL_law_638 (by decide) ?_
  refine lv_iload_n hx hb dL_law_18 rfl (lv_at hl 0 rfl) ?_
  refine lv_aload_n hx hb dL_law_19 rfl (lv_at hl 1 rfl) ?_
  refine va_slen hx hb hX hbl hbA hS dL_law_20 ?_
  refine lv_iconst (v := 5) hx hb dL_law_21 (by decide) ?_
  refine lv_isub hx hb dL_law_22 ?_
  refine lv_icmp_gt (tgt := 641) hx hb dL_law_23 (by decide) (fun _ => ?_) (fun c => absurd (by decide) c)
  exact zl_end l C0 hfin hc hs hS
set_option maxHeartbeats 4000000 in
set_option maxRecDepth 100000 in
theorem zl_0 {p : Program} {e : Env} {s : State} {m : MethodId} {below : List Frame} {meth : Method} {c : Code} (l : Launch) {bs : Nat} {xs : Nat → Int32} (C0 : lw_At p s m meth c bs 5 xs) {A : Nat → Prop} (hA : ∀ q : Nat, s.heap.size ≤ q → A q) (hbA : ¬ A bs) (hfin : ∀ q : Nat, A q → s.heap.size ≤ q) {D : va_G} {cI cZ cP cF : Nat} (hE : zE D cI cZ cP cF s) {h0 b d lo ma pr f le it dr wa sm ta fr ha tr m0 q_args q_locals q_many q_op q_operand q_isLooked q_depths q_deepest q_waits q_gone q_fields q_sizes q_rows q_hasCode q_counted q_madeCodes q_guardsFailed q_codeCalls q_value q_isLike q_doesVary q_partMany q_starts q_partOp q_partD q_partA q_partB q_partOf q_assumed q_localKnown q_localIs q_placeKnown q_placeIs q_frameMethod q_frameAt q_frameCode q_frameDepth q_register q_trap q_first : Nat} {g g2 : Nat → Int32} (hM : zM4 g) (hM2 : zM4 g2) {H : Heap} {locs : List Loc} {ls : Array Slot} (hP : va_P D vwCl [(h0, .inr (11, [.ref b, .ref d, .ref lo, .ref ma])), (b, .inr (0, [.ref pr, .int 0])), (pr, .inl (cP, 8, .inr (.inr (.inr (.inr (fun _ => none)))))), (m0, .inr (12, [.int 0, .ref q_args, .ref q_locals, .ref q_many, .ref q_op, .ref q_operand, .ref q_isLooked, .ref q_depths, .ref q_deepest, .int 0, .ref q_waits, .ref q_gone, .ref q_fields, .ref q_sizes, .ref q_rows, .ref q_hasCode, .ref q_counted, .ref q_madeCodes, .ref q_guardsFailed, .ref q_codeCalls, .ref q_value, .ref q_isLike, .ref q_doesVary, .ref q_partMany, .ref q_starts, .ref q_partOp, .ref q_partD, .ref q_partA, .ref q_partB, .ref q_partOf, .ref q_assumed, .int 0, .int 0, .ref q_localKnown, .ref q_localIs, .ref q_placeKnown, .ref q_placeIs, .int 0, .ref q_frameMethod, .ref q_frameAt, .ref q_frameCode, .ref q_frameDepth, .ref q_register, .int 0, .int 0, .int 0, .int 0, .int 0, .int 0, .int 0, .ref q_trap, .ref q_first])), (q_args, .inl (cI, 8, .inl (fun _ => 0))), (q_locals, .inl (cI, 8, .inl (fun _ => 0)))] H) (hD : va_D A [(h0, .inr (11, [.ref b, .ref d, .ref lo, .ref ma])), (b, .inr (0, [.ref pr, .int 0])), (pr, .inl (cP, 8, .inr (.inr (.inr (.inr (fun _ => none)))))), (m0, .inr (12, [.int 0, .ref q_args, .ref q_locals, .ref q_many, .ref q_op, .ref q_operand, .ref q_isLooked, .ref q_depths, .ref q_deepest, .int 0, .ref q_waits, .ref q_gone, .ref q_fields, .ref q_sizes, .ref q_rows, .ref q_hasCode, .ref q_counted, .ref q_madeCodes, .ref q_guardsFailed, .ref q_codeCalls, .ref q_value, .ref q_isLike, .ref q_doesVary, .ref q_partMany, .ref q_starts, .ref q_partOp, .ref q_partD, .ref q_partA, .ref q_partB, .ref q_partOf, .ref q_assumed, .int 0, .int 0, .ref q_localKnown, .ref q_localIs, .ref q_placeKnown, .ref q_placeIs, .int 0, .ref q_frameMethod, .ref q_frameAt, .ref q_frameCode, .ref q_frameDepth, .ref q_register, .int 0, .int 0, .int 0, .int 0, .int 0, .int 0, .int 0, .ref q_trap, .ref q_first])), (q_args, .inl (cI, 8, .inl (fun _ => 0))), (q_locals, .inl (cI, 8, .inl (fun _ => 0)))]) (hS : va_S A s.heap H locs) (hl : lv_has ls 4 [(3, .int 0), (2, .ref m0), (1, .ref h0), (0, .ref bs)]) : W p l e room_1 s m #[Value.ref bs] below meth c H locs 95 323715 (lw_Z below #[Value.ref bs] s) (F0 m 120 ls []) := by
  obtain ⟨hx, hb, hr, hml, hown, hts0, hX, hbl, hlocks, hgv⟩ := id C0
  have hts : ∀ w ∈ zw_law, w.before #[Value.ref bs] s = true := fun w h => hts0 w (zw_law_in w h)
  have hown : s.vm.findClass RL = some m.cls := hown
  have hK := hE.k
  refine lv_aload_n hx hb dL_law_120 rfl (lv_at hl 2 rfl) ?_
  refine lv_aload_n hx hb dL_law_121 rfl (lv_at hl 3 rfl) ?_
  refine lv_iload_n hx hb dL_law_122 rfl (lv_at hl 0 rfl) ?_
  refine lv_iconst (v := 1) hx hb dL_law_123 (by decide) ?_
  refine lv_iadd hx hb dL_law_124 ?_
  refine lv_topi (fun y_1 e_1 => ?_)
  obtain rfl : y_1 = 1 := by rw [e_1]; decide
  have hin_125 : vp_in 1 5 := by unfold vp_in; decide
  refine va_sld hx hb hX hbl hbA hS hin_125 dL_law_125 ?_
  refine lv_aload_n hx hb dL_law_126 rfl (lv_at hl 3 rfl) ?_
  refine lv_iload_n hx hb dL_law_127 rfl (lv_at hl 0 rfl) ?_
  refine lv_iconst (v := 2) hx hb dL_law_128 (by decide) ?_
  refine lv_iadd hx hb dL_law_129 ?_
  refine lv_topi (fun y_2 e_2 => ?_)
  obtain rfl : y_2 = 2 := by rw [e_2]; decide
  have hin_130 : vp_in 2 5 := by unfold vp_in; decide
  refine va_sld hx hb hX hbl hbA hS hin_130 dL_law_130 ?_
  have hPc := hP.sub (ws' := [(h0, .inr (11, [.ref b, .ref d, .ref lo, .ref ma])), (b, .inr (0, [.ref pr, .int 0])), (pr, .inl (cP, 8, .inr (.inr (.inr (.inr (fun _ => none))))))]) [0, 1, 2] rfl
  have hDc := hD.sub (ws' := [(h0, .inr (11, [.ref b, .ref d, .ref lo, .ref ma])), (b, .inr (0, [.ref pr, .int 0])), (pr, .inl (cP, 8, .inr (.inr (.inr (.inr (fun _ => none))))))]) [0, 1, 2] (by decide) rfl
  have hFc := va_free (wc := [(h0, .inr (11, [.ref b, .ref d, .ref lo, .ref ma])), (b, .inr (0, [.ref pr, .int 0])), (pr, .inl (cP, 8, .inr (.inr (.inr (.inr (fun _ => none))))))]) hD hS hA [0, 1, 2] rfl
  refine va_calli (va_runV (As := [.int (xs (1 : Int32).toNatClampNeg), .int (xs (2 : Int32).toNatClampNeg)]) (rest := []) ⟨hx, hb, hml, hown, hts⟩ (zc_X11_method l D cI cZ cP cF h0 b d lo ma pr (xs (1 : Int32).toNatClampNeg) (xs (2 : Int32).toNatClampNeg) H.size) (cwV 2 hts zg_law_zc_X11_method rfl rfl rfl (by decide +kernel) ⟨Nat.le_of_ble_eq_true rfl, Nat.le_of_ble_eq_true rfl⟩) ⟨zBW, va_recv hK hPc (ci := 11) (q0 := 0) rfl rfl, fun U hU hW => ⟨rfl, by rw [hU], by rw [hU]; exact hPc, hE.warm hW, hDc.weaken (fun _ _ _ _ => trivial)⟩⟩ rfl rfl hl.1 rfl (lv_room (Nat.le_of_ble_eq_true rfl)) dL_law_131 ⟨Nat.le_of_ble_eq_true rfl, Nat.le_of_ble_eq_true rfl⟩) hS (fun q _ h => hFc q h) hFc (fun r_131_3 u t H1 locs ht hvm h_131_3 hB hz1 hk1 hS => ?_)
  obtain ⟨hP1, hD1⟩ := hB
  rw [ht] at hP1
  obtain ⟨hP, hD⟩ := va_join (wr := [(m0, .inr (12, [.int 0, .ref q_args, .ref q_locals, .ref q_many, .ref q_op, .ref q_operand, .ref q_isLooked, .ref q_depths, .ref q_deepest, .int 0, .ref q_waits, .ref q_gone, .ref q_fields, .ref q_sizes, .ref q_rows, .ref q_hasCode, .ref q_counted, .ref q_madeCodes, .ref q_guardsFailed, .ref q_codeCalls, .ref q_value, .ref q_isLike, .ref q_doesVary, .ref q_partMany, .ref q_starts, .ref q_partOp, .ref q_partD, .ref q_partA, .ref q_partB, .ref q_partOf, .ref q_assumed, .int 0, .int 0, .ref q_localKnown, .ref q_localIs, .ref q_placeKnown, .ref q_placeIs, .int 0, .ref q_frameMethod, .ref q_frameAt, .ref q_frameCode, .ref q_frameDepth, .ref q_register, .int 0, .int 0, .int 0, .int 0, .int 0, .int 0, .int 0, .ref q_trap, .ref q_first])), (q_args, .inl (cI, 8, .inl (fun _ => 0))), (q_locals, .inl (cI, 8, .inl (fun _ => 0)))]) (w1 := []) hP hD [0, 1, 2] [3, 4, 5] rfl rfl (by decide) (by decide) hk1 hFc hP1 hD1
  generalize H1 = H at hP hS ⊢
  have hP : va_P D vwCl [(m0, .inr (12, [.int 0, .ref q_args, .ref q_locals, .ref q_many, .ref q_op, .ref q_operand, .ref q_isLooked, .ref q_depths, .ref q_deepest, .int 0, .ref q_waits, .ref q_gone, .ref q_fields, .ref q_sizes, .ref q_rows, .ref q_hasCode, .ref q_counted, .ref q_madeCodes, .ref q_guardsFailed, .ref q_codeCalls, .ref q_value, .ref q_isLike, .ref q_doesVary, .ref q_partMany, .ref q_starts, .ref q_partOp, .ref q_partD, .ref q_partA, .ref q_partB, .ref q_partOf, .ref q_assumed, .int 0, .int 0, .ref q_localKnown, .ref q_localIs, .ref q_placeKnown, .ref q_placeIs, .int 0, .ref q_frameMethod, .ref q_frameAt, .ref q_frameCode, .ref q_frameDepth, .ref q_register, .int 0, .int 0, .int 0, .int 0, .int 0, .int 0, .int 0, .ref q_trap, .ref q_first])), (q_args, .inl (cI, 8, .inl (fun _ => 0))), (q_locals, .inl (cI, 8, .inl (fun _ => 0)))] H := hP
  have hD : va_D A [(m0, .inr (12, [.int 0, .ref q_args, .ref q_locals, .ref q_many, .ref q_op, .ref q_operand, .ref q_isLooked, .ref q_depths, .ref q_deepest, .int 0, .ref q_waits, .ref q_gone, .ref q_fields, .ref q_sizes, .ref q_rows, .ref q_hasCode, .ref q_counted, .ref q_madeCodes, .ref q_guardsFailed, .ref q_codeCalls, .ref q_value, .ref q_isLike, .ref q_doesVary, .ref q_partMany, .ref q_starts, .ref q_partOp, .ref q_partD, .ref q_partA, .ref q_partB, .ref q_partOf, .ref q_assumed, .int 0, .int 0, .ref q_localKnown, .ref q_localIs, .ref q_placeKnown, .ref q_placeIs, .int 0, .ref q_frameMethod, .ref q_frameAt, .ref q_frameCode, .ref q_frameDepth, .ref q_register, .int 0, .int 0, .int 0, .int 0, .int 0, .int 0, .int 0, .ref q_trap, .ref q_first])), (q_args, .inl (cI, 8, .inl (fun _ => 0))), (q_locals, .inl (cI, 8, .inl (fun _ => 0)))] := hD
  obtain ⟨z_131, k_131⟩ : ∃ z, z = r_131_3 := ⟨_, rfl⟩
  rw [← k_131] at h_131_3 ⊢
  have hz_131 := h_131_3
  refine lv_aload_n hx hb dL_law_134 rfl (lv_at hl 1 rfl) ?_
  refine lv_aload_n hx hb dL_law_135 rfl (lv_at hl 3 rfl) ?_
  refine lv_iload_n hx hb dL_law_136 rfl (lv_at hl 0 rfl) ?_
  refine lv_iconst (v := 1) hx hb dL_law_137 (by decide) ?_
  refine lv_iadd hx hb dL_law_138 ?_
  refine lv_topi (fun y_4 e_4 => ?_)
  obtain rfl : y_4 = 1 := by rw [e_4]; decide
  have hin_139 : vp_in 1 5 := by unfold vp_in; decide
  refine va_sld hx hb hX hbl hbA hS hin_139 dL_law_139 ?_
  refine lv_aload_n hx hb dL_law_140 rfl (lv_at hl 3 rfl) ?_
  refine lv_iload_n hx hb dL_law_141 rfl (lv_at hl 0 rfl) ?_
  refine lv_iconst (v := 2) hx hb dL_law_142 (by decide) ?_
  refine lv_iadd hx hb dL_law_143 ?_
  refine lv_topi (fun y_5 e_5 => ?_)
  obtain rfl : y_5 = 2 := by rw [e_5]; decide
  have hin_144 : vp_in 2 5 := by unfold vp_in; decide
  refine va_sld hx hb hX hbl hbA hS hin_144 dL_law_144 ?_
  have hPc := hP.sub (ws' := [(m0, .inr (12, [.int 0, .ref q_args, .ref q_locals, .ref q_many, .ref q_op, .ref q_operand, .ref q_isLooked, .ref q_depths, .ref q_deepest, .int 0, .ref q_waits, .ref q_gone, .ref q_fields, .ref q_sizes, .ref q_rows, .ref q_hasCode, .ref q_counted, .ref q_madeCodes, .ref q_guardsFailed, .ref q_codeCalls, .ref q_value, .ref q_isLike, .ref q_doesVary, .ref q_partMany, .ref q_starts, .ref q_partOp, .ref q_partD, .ref q_partA, .ref q_partB, .ref q_partOf, .ref q_assumed, .int 0, .int 0, .ref q_localKnown, .ref q_localIs, .ref q_placeKnown, .ref q_placeIs, .int 0, .ref q_frameMethod, .ref q_frameAt, .ref q_frameCode, .ref q_frameDepth, .ref q_register, .int 0, .int 0, .int 0, .int 0, .int 0, .int 0, .int 0, .ref q_trap, .ref q_first])), (q_args, .inl (cI, 8, .inl (fun _ => 0))), (q_locals, .inl (cI, 8, .inl (fun _ => 0)))]) [0, 1, 2] rfl
  have hDc := hD.sub (ws' := [(m0, .inr (12, [.int 0, .ref q_args, .ref q_locals, .ref q_many, .ref q_op, .ref q_operand, .ref q_isLooked, .ref q_depths, .ref q_deepest, .int 0, .ref q_waits, .ref q_gone, .ref q_fields, .ref q_sizes, .ref q_rows, .ref q_hasCode, .ref q_counted, .ref q_madeCodes, .ref q_guardsFailed, .ref q_codeCalls, .ref q_value, .ref q_isLike, .ref q_doesVary, .ref q_partMany, .ref q_starts, .ref q_partOp, .ref q_partD, .ref q_partA, .ref q_partB, .ref q_partOf, .ref q_assumed, .int 0, .int 0, .ref q_localKnown, .ref q_localIs, .ref q_placeKnown, .ref q_placeIs, .int 0, .ref q_frameMethod, .ref q_frameAt, .ref q_frameCode, .ref q_frameDepth, .ref q_register, .int 0, .int 0, .int 0, .int 0, .int 0, .int 0, .int 0, .ref q_trap, .ref q_first])), (q_args, .inl (cI, 8, .inl (fun _ => 0))), (q_locals, .inl (cI, 8, .inl (fun _ => 0)))]) [0, 1, 2] (by decide) rfl
  have hFc := va_free (wc := [(m0, .inr (12, [.int 0, .ref q_args, .ref q_locals, .ref q_many, .ref q_op, .ref q_operand, .ref q_isLooked, .ref q_depths, .ref q_deepest, .int 0, .ref q_waits, .ref q_gone, .ref q_fields, .ref q_sizes, .ref q_rows, .ref q_hasCode, .ref q_counted, .ref q_madeCodes, .ref q_guardsFailed, .ref q_codeCalls, .ref q_value, .ref q_isLike, .ref q_doesVary, .ref q_partMany, .ref q_starts, .ref q_partOp, .ref q_partD, .ref q_partA, .ref q_partB, .ref q_partOf, .ref q_assumed, .int 0, .int 0, .ref q_localKnown, .ref q_localIs, .ref q_placeKnown, .ref q_placeIs, .int 0, .ref q_frameMethod, .ref q_frameAt, .ref q_frameCode, .ref q_frameDepth, .ref q_register, .int 0, .int 0, .int 0, .int 0, .int 0, .int 0, .int 0, .ref q_trap, .ref q_first])), (q_args, .inl (cI, 8, .inl (fun _ => 0))), (q_locals, .inl (cI, 8, .inl (fun _ => 0)))]) hD hS hA [0, 1, 2] rfl
  refine va_calli (va_runV (As := [.int (xs (1 : Int32).toNatClampNeg), .int (xs (2 : Int32).toNatClampNeg)]) (rest := [.int z_131]) ⟨hx, hb, hml, hown, hts⟩ (zc_X12_method l D cI cZ cP cF m0 q_args q_locals q_many q_op q_operand q_isLooked q_depths q_deepest q_waits q_gone q_fields q_sizes q_rows q_hasCode q_counted q_madeCodes q_guardsFailed q_codeCalls q_value q_isLike q_doesVary q_partMany q_starts q_partOp q_partD q_partA q_partB q_partOf q_assumed q_localKnown q_localIs q_placeKnown q_placeIs q_frameMethod q_frameAt q_frameCode q_frameDepth q_register q_trap q_first (xs (1 : Int32).toNatClampNeg) (xs (2 : Int32).toNatClampNeg) H.size) (cwV 2 hts zg_law_zc_X12_method rfl rfl rfl (by decide +kernel) ⟨Nat.le_of_ble_eq_true rfl, Nat.le_of_ble_eq_true rfl⟩) ⟨zBW, va_recv hK hPc (ci := 12) (q0 := 0) rfl rfl, fun U hU hW => ⟨rfl, by rw [hU], by rw [hU]; exact hPc, hE.warm hW, hDc.weaken (fun _ _ _ _ => trivial)⟩⟩ rfl rfl hl.1 rfl (lv_room (Nat.le_of_ble_eq_true rfl)) dL_law_145 ⟨Nat.le_of_ble_eq_true rfl, Nat.le_of_ble_eq_true rfl⟩) hS (fun q _ h => hFc q h) hFc (fun r_145_6 u t H1 locs ht hvm h_145_6 hB hz1 hk1 hS => ?_)
  obtain ⟨hP1, hD1⟩ := hB
  rw [ht] at hP1
  obtain ⟨hP, hD⟩ := va_join (wr := []) (w1 := []) hP hD [0, 1, 2] [] rfl rfl (by decide) (by decide) hk1 hFc hP1 hD1
  generalize H1 = H at hP hS ⊢
  have hP : va_P D vwCl [] H := hP
  have hD : va_D A [] := hD
  obtain ⟨z_145, k_145⟩ : ∃ z, z = r_145_6 := ⟨_, rfl⟩
  rw [← k_145] at h_145_6 ⊢
  have hz_145 := h_145_6
  refine lv_icmp_eq (tgt := 635) hx hb dL_law_148 (by decide) (fun c_148 => ?_) (fun c_148 => absurd (hz_131.trans hz_145.symm) c_148)
  exact zl_tail l C0 hA hbA hfin (Nat.le_of_ble_eq_true rfl) (Nat.le_of_ble_eq_true rfl) hS (lv_sub hl [0, 3] rfl)

set_option maxHeartbeats 4000000 in
set_option maxRecDepth 100000 in
theorem zl_1 {p : Program} {e : Env} {s : State} {m : MethodId} {below : List Frame} {meth : Method} {c : Code} (l : Launch) {bs : Nat} {xs : Nat → Int32} (C0 : lw_At p s m meth c bs 5 xs) {A : Nat → Prop} (hA : ∀ q : Nat, s.heap.size ≤ q → A q) (hbA : ¬ A bs) (hfin : ∀ q : Nat, A q → s.heap.size ≤ q) {D : va_G} {cI cZ cP cF : Nat} (hE : zE D cI cZ cP cF s) {h0 b d lo ma pr f le it dr wa sm ta fr ha tr m0 q_args q_locals q_many q_op q_operand q_isLooked q_depths q_deepest q_waits q_gone q_fields q_sizes q_rows q_hasCode q_counted q_madeCodes q_guardsFailed q_codeCalls q_value q_isLike q_doesVary q_partMany q_starts q_partOp q_partD q_partA q_partB q_partOf q_assumed q_localKnown q_localIs q_placeKnown q_placeIs q_frameMethod q_frameAt q_frameCode q_frameDepth q_register q_trap q_first : Nat} {g g2 : Nat → Int32} (hM : zM4 g) (hM2 : zM4 g2) {H : Heap} {locs : List Loc} {ls : Array Slot} (hP : va_P D vwCl [(h0, .inr (11, [.ref b, .ref d, .ref lo, .ref ma])), (b, .inr (0, [.ref pr, .int 0])), (m0, .inr (12, [.int 0, .ref q_args, .ref q_locals, .ref q_many, .ref q_op, .ref q_operand, .ref q_isLooked, .ref q_depths, .ref q_deepest, .int 0, .ref q_waits, .ref q_gone, .ref q_fields, .ref q_sizes, .ref q_rows, .ref q_hasCode, .ref q_counted, .ref q_madeCodes, .ref q_guardsFailed, .ref q_codeCalls, .ref q_value, .ref q_isLike, .ref q_doesVary, .ref q_partMany, .ref q_starts, .ref q_partOp, .ref q_partD, .ref q_partA, .ref q_partB, .ref q_partOf, .ref q_assumed, .int 0, .int 0, .ref q_localKnown, .ref q_localIs, .ref q_placeKnown, .ref q_placeIs, .int 0, .ref q_frameMethod, .ref q_frameAt, .ref q_frameCode, .ref q_frameDepth, .ref q_register, .int 0, .int 0, .int 0, .int 0, .int 0, .int 0, .int 0, .ref q_trap, .ref q_first]))] H) (hD : va_D A [(h0, .inr (11, [.ref b, .ref d, .ref lo, .ref ma])), (b, .inr (0, [.ref pr, .int 0])), (m0, .inr (12, [.int 0, .ref q_args, .ref q_locals, .ref q_many, .ref q_op, .ref q_operand, .ref q_isLooked, .ref q_depths, .ref q_deepest, .int 0, .ref q_waits, .ref q_gone, .ref q_fields, .ref q_sizes, .ref q_rows, .ref q_hasCode, .ref q_counted, .ref q_madeCodes, .ref q_guardsFailed, .ref q_codeCalls, .ref q_value, .ref q_isLike, .ref q_doesVary, .ref q_partMany, .ref q_starts, .ref q_partOp, .ref q_partD, .ref q_partA, .ref q_partB, .ref q_partOf, .ref q_assumed, .int 0, .int 0, .ref q_localKnown, .ref q_localIs, .ref q_placeKnown, .ref q_placeIs, .int 0, .ref q_frameMethod, .ref q_frameAt, .ref q_frameCode, .ref q_frameDepth, .ref q_register, .int 0, .int 0, .int 0, .int 0, .int 0, .int 0, .int 0, .ref q_trap, .ref q_first]))]) (hS : va_S A s.heap H locs) (hl : lv_has ls 4 [(3, .int 0), (2, .ref m0), (1, .ref h0), (0, .ref bs)]) : W p l e room_1 s m #[Value.ref bs] below meth c H locs 95 323715 (lw_Z below #[Value.ref bs] s) (F0 m 153 ls []) := by
  obtain ⟨hx, hb, hr, hml, hown, hts0, hX, hbl, hlocks, hgv⟩ := id C0
  have hts : ∀ w ∈ zw_law, w.before #[Value.ref bs] s = true := fun w h => hts0 w (zw_law_in w h)
  have hown : s.vm.findClass RL = some m.cls := hown
  have hK := hE.k
  refine lv_aload_n hx hb dL_law_153 rfl (lv_at hl 2 rfl) ?_
  refine lv_aload_n hx hb dL_law_154 rfl (lv_at hl 3 rfl) ?_
  refine lv_iload_n hx hb dL_law_155 rfl (lv_at hl 0 rfl) ?_
  refine lv_iconst (v := 1) hx hb dL_law_156 (by decide) ?_
  refine lv_iadd hx hb dL_law_157 ?_
  refine lv_topi (fun y_1 e_1 => ?_)
  obtain rfl : y_1 = 1 := by rw [e_1]; decide
  have hin_158 : vp_in 1 5 := by unfold vp_in; decide
  refine va_sld hx hb hX hbl hbA hS hin_158 dL_law_158 ?_
  refine lv_aload_n hx hb dL_law_159 rfl (lv_at hl 3 rfl) ?_
  refine lv_iload_n hx hb dL_law_160 rfl (lv_at hl 0 rfl) ?_
  refine lv_iconst (v := 2) hx hb dL_law_161 (by decide) ?_
  refine lv_iadd hx hb dL_law_162 ?_
  refine lv_topi (fun y_2 e_2 => ?_)
  obtain rfl : y_2 = 2 := by rw [e_2]; decide
  have hin_163 : vp_in 2 5 := by unfold vp_in; decide
  refine va_sld hx hb hX hbl hbA hS hin_163 dL_law_163 ?_
  refine lv_aload_n hx hb dL_law_164 rfl (lv_at hl 3 rfl) ?_
  refine lv_iload_n hx hb dL_law_165 rfl (lv_at hl 0 rfl) ?_
  refine lv_iconst (v := 3) hx hb dL_law_166 (by decide) ?_
  refine lv_iadd hx hb dL_law_167 ?_
  refine lv_topi (fun y_3 e_3 => ?_)
  obtain rfl : y_3 = 3 := by rw [e_3]; decide
  have hin_168 : vp_in 3 5 := by unfold vp_in; decide
  refine va_sld hx hb hX hbl hbA hS hin_168 dL_law_168 ?_
  have hPc := hP.sub (ws' := [(h0, .inr (11, [.ref b, .ref d, .ref lo, .ref ma])), (b, .inr (0, [.ref pr, .int 0]))]) [0, 1] rfl
  refine vp_callSi (va_Run.run (va_runV (As := [.int (xs (1 : Int32).toNatClampNeg), .int (xs (2 : Int32).toNatClampNeg), .int (xs (3 : Int32).toNatClampNeg)]) (rest := []) ⟨hx, hb, hml, hown, hts⟩ (zc_X11_write l D cI cZ cP cF h0 b d lo ma pr (xs (1 : Int32).toNatClampNeg) (xs (2 : Int32).toNatClampNeg) (xs (3 : Int32).toNatClampNeg)) (cwV 3 hts zg_law_zc_X11_write rfl rfl rfl (by decide +kernel) ⟨Nat.le_of_ble_eq_true rfl, Nat.le_of_ble_eq_true rfl⟩) ⟨zBR, va_recv hK hPc (ci := 11) (q0 := 0) rfl rfl, fun U hU hW => ⟨rfl, by rw [hU]; exact hPc, hE.warm hW⟩⟩ rfl rfl hl.1 rfl (lv_room (Nat.le_of_ble_eq_true rfl)) dL_law_169 ⟨Nat.le_of_ble_eq_true rfl, Nat.le_of_ble_eq_true rfl⟩)) (fun r_169_4 h_169_4 => ?_)
  obtain rfl : r_169_4 = (-2) := h_169_4
  refine lv_aload_n hx hb dL_law_172 rfl (lv_at hl 1 rfl) ?_
  refine lv_aload_n hx hb dL_law_173 rfl (lv_at hl 3 rfl) ?_
  refine lv_iload_n hx hb dL_law_174 rfl (lv_at hl 0 rfl) ?_
  refine lv_iconst (v := 1) hx hb dL_law_175 (by decide) ?_
  refine lv_iadd hx hb dL_law_176 ?_
  refine lv_topi (fun y_5 e_5 => ?_)
  obtain rfl : y_5 = 1 := by rw [e_5]; decide
  have hin_177 : vp_in 1 5 := by unfold vp_in; decide
  refine va_sld hx hb hX hbl hbA hS hin_177 dL_law_177 ?_
  refine lv_aload_n hx hb dL_law_178 rfl (lv_at hl 3 rfl) ?_
  refine lv_iload_n hx hb dL_law_179 rfl (lv_at hl 0 rfl) ?_
  refine lv_iconst (v := 2) hx hb dL_law_180 (by decide) ?_
  refine lv_iadd hx hb dL_law_181 ?_
  refine lv_topi (fun y_6 e_6 => ?_)
  obtain rfl : y_6 = 2 := by rw [e_6]; decide
  have hin_182 : vp_in 2 5 := by unfold vp_in; decide
  refine va_sld hx hb hX hbl hbA hS hin_182 dL_law_182 ?_
  refine lv_aload_n hx hb dL_law_183 rfl (lv_at hl 3 rfl) ?_
  refine lv_iload_n hx hb dL_law_184 rfl (lv_at hl 0 rfl) ?_
  refine lv_iconst (v := 3) hx hb dL_law_185 (by decide) ?_
  refine lv_iadd hx hb dL_law_186 ?_
  refine lv_topi (fun y_7 e_7 => ?_)
  obtain rfl : y_7 = 3 := by rw [e_7]; decide
  have hin_187 : vp_in 3 5 := by unfold vp_in; decide
  refine va_sld hx hb hX hbl hbA hS hin_187 dL_law_187 ?_
  have hPc := hP.sub (ws' := [(m0, .inr (12, [.int 0, .ref q_args, .ref q_locals, .ref q_many, .ref q_op, .ref q_operand, .ref q_isLooked, .ref q_depths, .ref q_deepest, .int 0, .ref q_waits, .ref q_gone, .ref q_fields, .ref q_sizes, .ref q_rows, .ref q_hasCode, .ref q_counted, .ref q_madeCodes, .ref q_guardsFailed, .ref q_codeCalls, .ref q_value, .ref q_isLike, .ref q_doesVary, .ref q_partMany, .ref q_starts, .ref q_partOp, .ref q_partD, .ref q_partA, .ref q_partB, .ref q_partOf, .ref q_assumed, .int 0, .int 0, .ref q_localKnown, .ref q_localIs, .ref q_placeKnown, .ref q_placeIs, .int 0, .ref q_frameMethod, .ref q_frameAt, .ref q_frameCode, .ref q_frameDepth, .ref q_register, .int 0, .int 0, .int 0, .int 0, .int 0, .int 0, .int 0, .ref q_trap, .ref q_first]))]) [2] rfl
  refine vp_callSi (va_Run.run (va_runV (As := [.int (xs (1 : Int32).toNatClampNeg), .int (xs (2 : Int32).toNatClampNeg), .int (xs (3 : Int32).toNatClampNeg)]) (rest := [.int (-2)]) ⟨hx, hb, hml, hown, hts⟩ (zc_X12_write l D cI cZ cP cF m0 q_args q_locals q_many q_op q_operand q_isLooked q_depths q_deepest q_waits q_gone q_fields q_sizes q_rows q_hasCode q_counted q_madeCodes q_guardsFailed q_codeCalls q_value q_isLike q_doesVary q_partMany q_starts q_partOp q_partD q_partA q_partB q_partOf q_assumed q_localKnown q_localIs q_placeKnown q_placeIs q_frameMethod q_frameAt q_frameCode q_frameDepth q_register q_trap q_first (xs (1 : Int32).toNatClampNeg) (xs (2 : Int32).toNatClampNeg) (xs (3 : Int32).toNatClampNeg)) (cwV 3 hts zg_law_zc_X12_write rfl rfl rfl (by decide +kernel) ⟨Nat.le_of_ble_eq_true rfl, Nat.le_of_ble_eq_true rfl⟩) ⟨zBR, va_recv hK hPc (ci := 12) (q0 := 0) rfl rfl, fun U hU hW => ⟨rfl, by rw [hU]; exact hPc, hE.warm hW⟩⟩ rfl rfl hl.1 rfl (lv_room (Nat.le_of_ble_eq_true rfl)) dL_law_188 ⟨Nat.le_of_ble_eq_true rfl, Nat.le_of_ble_eq_true rfl⟩)) (fun r_188_8 h_188_8 => ?_)
  obtain rfl : r_188_8 = (-2) := h_188_8
  refine lv_icmp_eq (tgt := 635) hx hb dL_law_191 (by decide) (fun _ => ?_) (fun c => absurd (by decide) c)
  exact zl_tail l C0 hA hbA hfin (Nat.le_of_ble_eq_true rfl) (Nat.le_of_ble_eq_true rfl) hS (lv_sub hl [0, 3] rfl)

set_option maxHeartbeats 4000000 in
set_option maxRecDepth 100000 in
theorem zl_2 {p : Program} {e : Env} {s : State} {m : MethodId} {below : List Frame} {meth : Method} {c : Code} (l : Launch) {bs : Nat} {xs : Nat → Int32} (C0 : lw_At p s m meth c bs 5 xs) {A : Nat → Prop} (hA : ∀ q : Nat, s.heap.size ≤ q → A q) (hbA : ¬ A bs) (hfin : ∀ q : Nat, A q → s.heap.size ≤ q) {D : va_G} {cI cZ cP cF : Nat} (hE : zE D cI cZ cP cF s) {h0 b d lo ma pr f le it dr wa sm ta fr ha tr m0 q_args q_locals q_many q_op q_operand q_isLooked q_depths q_deepest q_waits q_gone q_fields q_sizes q_rows q_hasCode q_counted q_madeCodes q_guardsFailed q_codeCalls q_value q_isLike q_doesVary q_partMany q_starts q_partOp q_partD q_partA q_partB q_partOf q_assumed q_localKnown q_localIs q_placeKnown q_placeIs q_frameMethod q_frameAt q_frameCode q_frameDepth q_register q_trap q_first : Nat} {g g2 : Nat → Int32} (hM : zM4 g) (hM2 : zM4 g2) {H : Heap} {locs : List Loc} {ls : Array Slot} (hP : va_P D vwCl [(h0, .inr (11, [.ref b, .ref d, .ref lo, .ref ma])), (b, .inr (0, [.ref pr, .int 0])), (m0, .inr (12, [.int 0, .ref q_args, .ref q_locals, .ref q_many, .ref q_op, .ref q_operand, .ref q_isLooked, .ref q_depths, .ref q_deepest, .int 0, .ref q_waits, .ref q_gone, .ref q_fields, .ref q_sizes, .ref q_rows, .ref q_hasCode, .ref q_counted, .ref q_madeCodes, .ref q_guardsFailed, .ref q_codeCalls, .ref q_value, .ref q_isLike, .ref q_doesVary, .ref q_partMany, .ref q_starts, .ref q_partOp, .ref q_partD, .ref q_partA, .ref q_partB, .ref q_partOf, .ref q_assumed, .int 0, .int 0, .ref q_localKnown, .ref q_localIs, .ref q_placeKnown, .ref q_placeIs, .int 0, .ref q_frameMethod, .ref q_frameAt, .ref q_frameCode, .ref q_frameDepth, .ref q_register, .int 0, .int 0, .int 0, .int 0, .int 0, .int 0, .int 0, .ref q_trap, .ref q_first]))] H) (hD : va_D A [(h0, .inr (11, [.ref b, .ref d, .ref lo, .ref ma])), (b, .inr (0, [.ref pr, .int 0])), (m0, .inr (12, [.int 0, .ref q_args, .ref q_locals, .ref q_many, .ref q_op, .ref q_operand, .ref q_isLooked, .ref q_depths, .ref q_deepest, .int 0, .ref q_waits, .ref q_gone, .ref q_fields, .ref q_sizes, .ref q_rows, .ref q_hasCode, .ref q_counted, .ref q_madeCodes, .ref q_guardsFailed, .ref q_codeCalls, .ref q_value, .ref q_isLike, .ref q_doesVary, .ref q_partMany, .ref q_starts, .ref q_partOp, .ref q_partD, .ref q_partA, .ref q_partB, .ref q_partOf, .ref q_assumed, .int 0, .int 0, .ref q_localKnown, .ref q_localIs, .ref q_placeKnown, .ref q_placeIs, .int 0, .ref q_frameMethod, .ref q_frameAt, .ref q_frameCode, .ref q_frameDepth, .ref q_register, .int 0, .int 0, .int 0, .int 0, .int 0, .int 0, .int 0, .ref q_trap, .ref q_first]))]) (hS : va_S A s.heap H locs) (hl : lv_has ls 4 [(3, .int 0), (2, .ref m0), (1, .ref h0), (0, .ref bs)]) : W p l e room_1 s m #[Value.ref bs] below meth c H locs 95 323715 (lw_Z below #[Value.ref bs] s) (F0 m 196 ls []) := by
  obtain ⟨hx, hb, hr, hml, hown, hts0, hX, hbl, hlocks, hgv⟩ := id C0
  have hts : ∀ w ∈ zw_law, w.before #[Value.ref bs] s = true := fun w h => hts0 w (zw_law_in w h)
  have hown : s.vm.findClass RL = some m.cls := hown
  have hK := hE.k
  refine lv_aload_n hx hb dL_law_196 rfl (lv_at hl 2 rfl) ?_
  refine lv_aload_n hx hb dL_law_197 rfl (lv_at hl 3 rfl) ?_
  refine lv_iload_n hx hb dL_law_198 rfl (lv_at hl 0 rfl) ?_
  refine lv_iconst (v := 1) hx hb dL_law_199 (by decide) ?_
  refine lv_iadd hx hb dL_law_200 ?_
  refine lv_topi (fun y_1 e_1 => ?_)
  obtain rfl : y_1 = 1 := by rw [e_1]; decide
  have hin_201 : vp_in 1 5 := by unfold vp_in; decide
  refine va_sld hx hb hX hbl hbA hS hin_201 dL_law_201 ?_
  have hPc := hP.sub (ws' := [(h0, .inr (11, [.ref b, .ref d, .ref lo, .ref ma])), (b, .inr (0, [.ref pr, .int 0]))]) [0, 1] rfl
  refine vp_callSi (va_Run.run (va_runV (As := [.int (xs (1 : Int32).toNatClampNeg)]) (rest := []) ⟨hx, hb, hml, hown, hts⟩ (zc_X11_look l D cI cZ cP cF h0 b d lo ma pr (xs (1 : Int32).toNatClampNeg)) (cwV 1 hts zg_law_zc_X11_look rfl rfl rfl (by decide +kernel) ⟨Nat.le_of_ble_eq_true rfl, Nat.le_of_ble_eq_true rfl⟩) ⟨zBR, va_recv hK hPc (ci := 11) (q0 := 0) rfl rfl, fun U hU hW => ⟨rfl, by rw [hU]; exact hPc, hE.warm hW⟩⟩ rfl rfl hl.1 rfl (lv_room (Nat.le_of_ble_eq_true rfl)) dL_law_202 ⟨Nat.le_of_ble_eq_true rfl, Nat.le_of_ble_eq_true rfl⟩)) (fun r_202_2 h_202_2 => ?_)
  obtain rfl : r_202_2 = (-2) := h_202_2
  refine lv_aload_n hx hb dL_law_205 rfl (lv_at hl 1 rfl) ?_
  refine lv_aload_n hx hb dL_law_206 rfl (lv_at hl 3 rfl) ?_
  refine lv_iload_n hx hb dL_law_207 rfl (lv_at hl 0 rfl) ?_
  refine lv_iconst (v := 1) hx hb dL_law_208 (by decide) ?_
  refine lv_iadd hx hb dL_law_209 ?_
  refine lv_topi (fun y_3 e_3 => ?_)
  obtain rfl : y_3 = 1 := by rw [e_3]; decide
  have hin_210 : vp_in 1 5 := by unfold vp_in; decide
  refine va_sld hx hb hX hbl hbA hS hin_210 dL_law_210 ?_
  have hPc := hP.sub (ws' := [(m0, .inr (12, [.int 0, .ref q_args, .ref q_locals, .ref q_many, .ref q_op, .ref q_operand, .ref q_isLooked, .ref q_depths, .ref q_deepest, .int 0, .ref q_waits, .ref q_gone, .ref q_fields, .ref q_sizes, .ref q_rows, .ref q_hasCode, .ref q_counted, .ref q_madeCodes, .ref q_guardsFailed, .ref q_codeCalls, .ref q_value, .ref q_isLike, .ref q_doesVary, .ref q_partMany, .ref q_starts, .ref q_partOp, .ref q_partD, .ref q_partA, .ref q_partB, .ref q_partOf, .ref q_assumed, .int 0, .int 0, .ref q_localKnown, .ref q_localIs, .ref q_placeKnown, .ref q_placeIs, .int 0, .ref q_frameMethod, .ref q_frameAt, .ref q_frameCode, .ref q_frameDepth, .ref q_register, .int 0, .int 0, .int 0, .int 0, .int 0, .int 0, .int 0, .ref q_trap, .ref q_first]))]) [2] rfl
  refine vp_callSi (va_Run.run (va_runV (As := [.int (xs (1 : Int32).toNatClampNeg)]) (rest := [.int (-2)]) ⟨hx, hb, hml, hown, hts⟩ (zc_X12_look l D cI cZ cP cF m0 q_args q_locals q_many q_op q_operand q_isLooked q_depths q_deepest q_waits q_gone q_fields q_sizes q_rows q_hasCode q_counted q_madeCodes q_guardsFailed q_codeCalls q_value q_isLike q_doesVary q_partMany q_starts q_partOp q_partD q_partA q_partB q_partOf q_assumed q_localKnown q_localIs q_placeKnown q_placeIs q_frameMethod q_frameAt q_frameCode q_frameDepth q_register q_trap q_first (xs (1 : Int32).toNatClampNeg)) (cwV 1 hts zg_law_zc_X12_look rfl rfl rfl (by decide +kernel) ⟨Nat.le_of_ble_eq_true rfl, Nat.le_of_ble_eq_true rfl⟩) ⟨zBR, va_recv hK hPc (ci := 12) (q0 := 0) rfl rfl, fun U hU hW => ⟨rfl, by rw [hU]; exact hPc, hE.warm hW⟩⟩ rfl rfl hl.1 rfl (lv_room (Nat.le_of_ble_eq_true rfl)) dL_law_211 ⟨Nat.le_of_ble_eq_true rfl, Nat.le_of_ble_eq_true rfl⟩)) (fun r_211_4 h_211_4 => ?_)
  obtain rfl : r_211_4 = (-2) := h_211_4
  refine lv_icmp_eq (tgt := 635) hx hb dL_law_214 (by decide) (fun _ => ?_) (fun c => absurd (by decide) c)
  exact zl_tail l C0 hA hbA hfin (Nat.le_of_ble_eq_true rfl) (Nat.le_of_ble_eq_true rfl) hS (lv_sub hl [0, 3] rfl)

set_option maxHeartbeats 4000000 in
set_option maxRecDepth 100000 in
theorem zl_3 {p : Program} {e : Env} {s : State} {m : MethodId} {below : List Frame} {meth : Method} {c : Code} (l : Launch) {bs : Nat} {xs : Nat → Int32} (C0 : lw_At p s m meth c bs 5 xs) {A : Nat → Prop} (hA : ∀ q : Nat, s.heap.size ≤ q → A q) (hbA : ¬ A bs) (hfin : ∀ q : Nat, A q → s.heap.size ≤ q) {D : va_G} {cI cZ cP cF : Nat} (hE : zE D cI cZ cP cF s) {h0 b d lo ma pr f le it dr wa sm ta fr ha tr m0 q_args q_locals q_many q_op q_operand q_isLooked q_depths q_deepest q_waits q_gone q_fields q_sizes q_rows q_hasCode q_counted q_madeCodes q_guardsFailed q_codeCalls q_value q_isLike q_doesVary q_partMany q_starts q_partOp q_partD q_partA q_partB q_partOf q_assumed q_localKnown q_localIs q_placeKnown q_placeIs q_frameMethod q_frameAt q_frameCode q_frameDepth q_register q_trap q_first : Nat} {g g2 : Nat → Int32} (hM : zM4 g) (hM2 : zM4 g2) {H : Heap} {locs : List Loc} {ls : Array Slot} (hP : va_P D vwCl [(h0, .inr (11, [.ref b, .ref d, .ref lo, .ref ma])), (lo, .inr (6, [.ref b, .ref dr, .ref wa, .int 0])), (m0, .inr (12, [.int 0, .ref q_args, .ref q_locals, .ref q_many, .ref q_op, .ref q_operand, .ref q_isLooked, .ref q_depths, .ref q_deepest, .int 0, .ref q_waits, .ref q_gone, .ref q_fields, .ref q_sizes, .ref q_rows, .ref q_hasCode, .ref q_counted, .ref q_madeCodes, .ref q_guardsFailed, .ref q_codeCalls, .ref q_value, .ref q_isLike, .ref q_doesVary, .ref q_partMany, .ref q_starts, .ref q_partOp, .ref q_partD, .ref q_partA, .ref q_partB, .ref q_partOf, .ref q_assumed, .int 0, .int 0, .ref q_localKnown, .ref q_localIs, .ref q_placeKnown, .ref q_placeIs, .int 0, .ref q_frameMethod, .ref q_frameAt, .ref q_frameCode, .ref q_frameDepth, .ref q_register, .int 0, .int 0, .int 0, .int 0, .int 0, .int 0, .int 0, .ref q_trap, .ref q_first]))] H) (hD : va_D A [(h0, .inr (11, [.ref b, .ref d, .ref lo, .ref ma])), (lo, .inr (6, [.ref b, .ref dr, .ref wa, .int 0])), (m0, .inr (12, [.int 0, .ref q_args, .ref q_locals, .ref q_many, .ref q_op, .ref q_operand, .ref q_isLooked, .ref q_depths, .ref q_deepest, .int 0, .ref q_waits, .ref q_gone, .ref q_fields, .ref q_sizes, .ref q_rows, .ref q_hasCode, .ref q_counted, .ref q_madeCodes, .ref q_guardsFailed, .ref q_codeCalls, .ref q_value, .ref q_isLike, .ref q_doesVary, .ref q_partMany, .ref q_starts, .ref q_partOp, .ref q_partD, .ref q_partA, .ref q_partB, .ref q_partOf, .ref q_assumed, .int 0, .int 0, .ref q_localKnown, .ref q_localIs, .ref q_placeKnown, .ref q_placeIs, .int 0, .ref q_frameMethod, .ref q_frameAt, .ref q_frameCode, .ref q_frameDepth, .ref q_register, .int 0, .int 0, .int 0, .int 0, .int 0, .int 0, .int 0, .ref q_trap, .ref q_first]))]) (hS : va_S A s.heap H locs) (hl : lv_has ls 4 [(3, .int 0), (2, .ref m0), (1, .ref h0), (0, .ref bs)]) : W p l e room_1 s m #[Value.ref bs] below meth c H locs 95 323715 (lw_Z below #[Value.ref bs] s) (F0 m 219 ls []) := by
  obtain ⟨hx, hb, hr, hml, hown, hts0, hX, hbl, hlocks, hgv⟩ := id C0
  have hts : ∀ w ∈ zw_law, w.before #[Value.ref bs] s = true := fun w h => hts0 w (zw_law_in w h)
  have hown : s.vm.findClass RL = some m.cls := hown
  have hK := hE.k
  refine lv_aload_n hx hb dL_law_219 rfl (lv_at hl 2 rfl) ?_
  have hPc := hP.sub (ws' := [(h0, .inr (11, [.ref b, .ref d, .ref lo, .ref ma])), (lo, .inr (6, [.ref b, .ref dr, .ref wa, .int 0]))]) [0, 1] rfl
  refine vp_callSi (va_Run.run (va_runV (As := []) (rest := []) ⟨hx, hb, hml, hown, hts⟩ (zc_X11_fault l D cI cZ cP cF h0 b d lo ma dr wa) (cwV 0 hts zg_law_zc_X11_fault rfl rfl rfl (by decide +kernel) ⟨Nat.le_of_ble_eq_true rfl, Nat.le_of_ble_eq_true rfl⟩) ⟨zBR, va_recv hK hPc (ci := 11) (q0 := 0) rfl rfl, fun U hU hW => ⟨rfl, by rw [hU]; exact hPc, hE.warm hW⟩⟩ rfl rfl hl.1 rfl (lv_room (Nat.le_of_ble_eq_true rfl)) dL_law_220 ⟨Nat.le_of_ble_eq_true rfl, Nat.le_of_ble_eq_true rfl⟩)) (fun r_220_1 h_220_1 => ?_)
  obtain rfl : r_220_1 = 0 := h_220_1
  refine lv_aload_n hx hb dL_law_223 rfl (lv_at hl 1 rfl) ?_
  have hPc := hP.sub (ws' := [(m0, .inr (12, [.int 0, .ref q_args, .ref q_locals, .ref q_many, .ref q_op, .ref q_operand, .ref q_isLooked, .ref q_depths, .ref q_deepest, .int 0, .ref q_waits, .ref q_gone, .ref q_fields, .ref q_sizes, .ref q_rows, .ref q_hasCode, .ref q_counted, .ref q_madeCodes, .ref q_guardsFailed, .ref q_codeCalls, .ref q_value, .ref q_isLike, .ref q_doesVary, .ref q_partMany, .ref q_starts, .ref q_partOp, .ref q_partD, .ref q_partA, .ref q_partB, .ref q_partOf, .ref q_assumed, .int 0, .int 0, .ref q_localKnown, .ref q_localIs, .ref q_placeKnown, .ref q_placeIs, .int 0, .ref q_frameMethod, .ref q_frameAt, .ref q_frameCode, .ref q_frameDepth, .ref q_register, .int 0, .int 0, .int 0, .int 0, .int 0, .int 0, .int 0, .ref q_trap, .ref q_first]))]) [2] rfl
  refine vp_callSi (va_Run.run (va_runV (As := []) (rest := [.int 0]) ⟨hx, hb, hml, hown, hts⟩ (zc_X12_fault l D cI cZ cP cF m0 q_args q_locals q_many q_op q_operand q_isLooked q_depths q_deepest q_waits q_gone q_fields q_sizes q_rows q_hasCode q_counted q_madeCodes q_guardsFailed q_codeCalls q_value q_isLike q_doesVary q_partMany q_starts q_partOp q_partD q_partA q_partB q_partOf q_assumed q_localKnown q_localIs q_placeKnown q_placeIs q_frameMethod q_frameAt q_frameCode q_frameDepth q_register q_trap q_first) (cwV 0 hts zg_law_zc_X12_fault rfl rfl rfl (by decide +kernel) ⟨Nat.le_of_ble_eq_true rfl, Nat.le_of_ble_eq_true rfl⟩) ⟨zBR, va_recv hK hPc (ci := 12) (q0 := 0) rfl rfl, fun U hU hW => ⟨rfl, by rw [hU]; exact hPc, hE.warm hW⟩⟩ rfl rfl hl.1 rfl (lv_room (Nat.le_of_ble_eq_true rfl)) dL_law_224 ⟨Nat.le_of_ble_eq_true rfl, Nat.le_of_ble_eq_true rfl⟩)) (fun r_224_2 h_224_2 => ?_)
  obtain rfl : r_224_2 = 0 := h_224_2
  refine lv_icmp_eq (tgt := 635) hx hb dL_law_227 (by decide) (fun _ => ?_) (fun c => absurd (by decide) c)
  exact zl_tail l C0 hA hbA hfin (Nat.le_of_ble_eq_true rfl) (Nat.le_of_ble_eq_true rfl) hS (lv_sub hl [0, 3] rfl)

set_option maxHeartbeats 4000000 in
set_option maxRecDepth 100000 in
theorem zl_4 {p : Program} {e : Env} {s : State} {m : MethodId} {below : List Frame} {meth : Method} {c : Code} (l : Launch) {bs : Nat} {xs : Nat → Int32} (C0 : lw_At p s m meth c bs 5 xs) {A : Nat → Prop} (hA : ∀ q : Nat, s.heap.size ≤ q → A q) (hbA : ¬ A bs) (hfin : ∀ q : Nat, A q → s.heap.size ≤ q) {D : va_G} {cI cZ cP cF : Nat} (hE : zE D cI cZ cP cF s) {h0 b d lo ma pr f le it dr wa sm ta fr ha tr m0 q_args q_locals q_many q_op q_operand q_isLooked q_depths q_deepest q_waits q_gone q_fields q_sizes q_rows q_hasCode q_counted q_madeCodes q_guardsFailed q_codeCalls q_value q_isLike q_doesVary q_partMany q_starts q_partOp q_partD q_partA q_partB q_partOf q_assumed q_localKnown q_localIs q_placeKnown q_placeIs q_frameMethod q_frameAt q_frameCode q_frameDepth q_register q_trap q_first : Nat} {g g2 : Nat → Int32} (hM : zM4 g) (hM2 : zM4 g2) {H : Heap} {locs : List Loc} {ls : Array Slot} (hP : va_P D vwCl [(h0, .inr (11, [.ref b, .ref d, .ref lo, .ref ma])), (d, .inr (2, [.ref f, .ref le, .ref it])), (f, .inl (cI, 8, .inl (fun _ => 0))), (m0, .inr (12, [.int 0, .ref q_args, .ref q_locals, .ref q_many, .ref q_op, .ref q_operand, .ref q_isLooked, .ref q_depths, .ref q_deepest, .int 0, .ref q_waits, .ref q_gone, .ref q_fields, .ref q_sizes, .ref q_rows, .ref q_hasCode, .ref q_counted, .ref q_madeCodes, .ref q_guardsFailed, .ref q_codeCalls, .ref q_value, .ref q_isLike, .ref q_doesVary, .ref q_partMany, .ref q_starts, .ref q_partOp, .ref q_partD, .ref q_partA, .ref q_partB, .ref q_partOf, .ref q_assumed, .int 0, .int 0, .ref q_localKnown, .ref q_localIs, .ref q_placeKnown, .ref q_placeIs, .int 0, .ref q_frameMethod, .ref q_frameAt, .ref q_frameCode, .ref q_frameDepth, .ref q_register, .int 0, .int 0, .int 0, .int 0, .int 0, .int 0, .int 0, .ref q_trap, .ref q_first])), (q_fields, .inl (cI, 8, .inl (fun _ => 0)))] H) (hD : va_D A [(h0, .inr (11, [.ref b, .ref d, .ref lo, .ref ma])), (d, .inr (2, [.ref f, .ref le, .ref it])), (f, .inl (cI, 8, .inl (fun _ => 0))), (m0, .inr (12, [.int 0, .ref q_args, .ref q_locals, .ref q_many, .ref q_op, .ref q_operand, .ref q_isLooked, .ref q_depths, .ref q_deepest, .int 0, .ref q_waits, .ref q_gone, .ref q_fields, .ref q_sizes, .ref q_rows, .ref q_hasCode, .ref q_counted, .ref q_madeCodes, .ref q_guardsFailed, .ref q_codeCalls, .ref q_value, .ref q_isLike, .ref q_doesVary, .ref q_partMany, .ref q_starts, .ref q_partOp, .ref q_partD, .ref q_partA, .ref q_partB, .ref q_partOf, .ref q_assumed, .int 0, .int 0, .ref q_localKnown, .ref q_localIs, .ref q_placeKnown, .ref q_placeIs, .int 0, .ref q_frameMethod, .ref q_frameAt, .ref q_frameCode, .ref q_frameDepth, .ref q_register, .int 0, .int 0, .int 0, .int 0, .int 0, .int 0, .int 0, .ref q_trap, .ref q_first])), (q_fields, .inl (cI, 8, .inl (fun _ => 0)))]) (hS : va_S A s.heap H locs) (hl : lv_has ls 4 [(3, .int 0), (2, .ref m0), (1, .ref h0), (0, .ref bs)]) : W p l e room_1 s m #[Value.ref bs] below meth c H locs 95 323715 (lw_Z below #[Value.ref bs] s) (F0 m 232 ls []) := by
  obtain ⟨hx, hb, hr, hml, hown, hts0, hX, hbl, hlocks, hgv⟩ := id C0
  have hts : ∀ w ∈ zw_law, w.before #[Value.ref bs] s = true := fun w h => hts0 w (zw_law_in w h)
  have hown : s.vm.findClass RL = some m.cls := hown
  have hK := hE.k
  refine lv_aload_n hx hb dL_law_232 rfl (lv_at hl 2 rfl) ?_
  refine lv_aload_n hx hb dL_law_233 rfl (lv_at hl 3 rfl) ?_
  refine lv_iload_n hx hb dL_law_234 rfl (lv_at hl 0 rfl) ?_
  refine lv_iconst (v := 1) hx hb dL_law_235 (by decide) ?_
  refine lv_iadd hx hb dL_law_236 ?_
  refine lv_topi (fun y_1 e_1 => ?_)
  obtain rfl : y_1 = 1 := by rw [e_1]; decide
  have hin_237 : vp_in 1 5 := by unfold vp_in; decide
  refine va_sld hx hb hX hbl hbA hS hin_237 dL_law_237 ?_
  refine lv_aload_n hx hb dL_law_238 rfl (lv_at hl 3 rfl) ?_
  refine lv_iload_n hx hb dL_law_239 rfl (lv_at hl 0 rfl) ?_
  refine lv_iconst (v := 2) hx hb dL_law_240 (by decide) ?_
  refine lv_iadd hx hb dL_law_241 ?_
  refine lv_topi (fun y_2 e_2 => ?_)
  obtain rfl : y_2 = 2 := by rw [e_2]; decide
  have hin_242 : vp_in 2 5 := by unfold vp_in; decide
  refine va_sld hx hb hX hbl hbA hS hin_242 dL_law_242 ?_
  have hPc := hP.sub (ws' := [(h0, .inr (11, [.ref b, .ref d, .ref lo, .ref ma])), (d, .inr (2, [.ref f, .ref le, .ref it])), (f, .inl (cI, 8, .inl (fun _ => 0)))]) [0, 1, 2] rfl
  have hDc := hD.sub (ws' := [(h0, .inr (11, [.ref b, .ref d, .ref lo, .ref ma])), (d, .inr (2, [.ref f, .ref le, .ref it])), (f, .inl (cI, 8, .inl (fun _ => 0)))]) [0, 1, 2] (by decide) rfl
  have hFc := va_free (wc := [(h0, .inr (11, [.ref b, .ref d, .ref lo, .ref ma])), (d, .inr (2, [.ref f, .ref le, .ref it])), (f, .inl (cI, 8, .inl (fun _ => 0)))]) hD hS hA [0, 1, 2] rfl
  refine va_calli (va_runV (As := [.int (xs (1 : Int32).toNatClampNeg), .int (xs (2 : Int32).toNatClampNeg)]) (rest := []) ⟨hx, hb, hml, hown, hts⟩ (zc_X11_keep l D cI cZ cP cF h0 b d lo ma f le it (xs (1 : Int32).toNatClampNeg) (xs (2 : Int32).toNatClampNeg) H.size) (cwV 2 hts zg_law_zc_X11_keep rfl rfl rfl (by decide +kernel) ⟨Nat.le_of_ble_eq_true rfl, Nat.le_of_ble_eq_true rfl⟩) ⟨zBW, va_recv hK hPc (ci := 11) (q0 := 0) rfl rfl, fun U hU hW => ⟨rfl, by rw [hU], by rw [hU]; exact hPc, hE.warm hW, hDc.weaken (fun _ _ _ _ => trivial)⟩⟩ rfl rfl hl.1 rfl (lv_room (Nat.le_of_ble_eq_true rfl)) dL_law_243 ⟨Nat.le_of_ble_eq_true rfl, Nat.le_of_ble_eq_true rfl⟩) hS (fun q _ h => hFc q h) hFc (fun r_243_3 u t H1 locs ht hvm h_243_3 hB hz1 hk1 hS => ?_)
  obtain ⟨hP1, hD1⟩ := hB
  rw [ht] at hP1
  obtain ⟨hP, hD⟩ := va_join (wr := [(m0, .inr (12, [.int 0, .ref q_args, .ref q_locals, .ref q_many, .ref q_op, .ref q_operand, .ref q_isLooked, .ref q_depths, .ref q_deepest, .int 0, .ref q_waits, .ref q_gone, .ref q_fields, .ref q_sizes, .ref q_rows, .ref q_hasCode, .ref q_counted, .ref q_madeCodes, .ref q_guardsFailed, .ref q_codeCalls, .ref q_value, .ref q_isLike, .ref q_doesVary, .ref q_partMany, .ref q_starts, .ref q_partOp, .ref q_partD, .ref q_partA, .ref q_partB, .ref q_partOf, .ref q_assumed, .int 0, .int 0, .ref q_localKnown, .ref q_localIs, .ref q_placeKnown, .ref q_placeIs, .int 0, .ref q_frameMethod, .ref q_frameAt, .ref q_frameCode, .ref q_frameDepth, .ref q_register, .int 0, .int 0, .int 0, .int 0, .int 0, .int 0, .int 0, .ref q_trap, .ref q_first])), (q_fields, .inl (cI, 8, .inl (fun _ => 0)))]) (w1 := []) hP hD [0, 1, 2] [3, 4] rfl rfl (by decide) (by decide) hk1 hFc hP1 hD1
  generalize H1 = H at hP hS ⊢
  have hP : va_P D vwCl [(m0, .inr (12, [.int 0, .ref q_args, .ref q_locals, .ref q_many, .ref q_op, .ref q_operand, .ref q_isLooked, .ref q_depths, .ref q_deepest, .int 0, .ref q_waits, .ref q_gone, .ref q_fields, .ref q_sizes, .ref q_rows, .ref q_hasCode, .ref q_counted, .ref q_madeCodes, .ref q_guardsFailed, .ref q_codeCalls, .ref q_value, .ref q_isLike, .ref q_doesVary, .ref q_partMany, .ref q_starts, .ref q_partOp, .ref q_partD, .ref q_partA, .ref q_partB, .ref q_partOf, .ref q_assumed, .int 0, .int 0, .ref q_localKnown, .ref q_localIs, .ref q_placeKnown, .ref q_placeIs, .int 0, .ref q_frameMethod, .ref q_frameAt, .ref q_frameCode, .ref q_frameDepth, .ref q_register, .int 0, .int 0, .int 0, .int 0, .int 0, .int 0, .int 0, .ref q_trap, .ref q_first])), (q_fields, .inl (cI, 8, .inl (fun _ => 0)))] H := hP
  have hD : va_D A [(m0, .inr (12, [.int 0, .ref q_args, .ref q_locals, .ref q_many, .ref q_op, .ref q_operand, .ref q_isLooked, .ref q_depths, .ref q_deepest, .int 0, .ref q_waits, .ref q_gone, .ref q_fields, .ref q_sizes, .ref q_rows, .ref q_hasCode, .ref q_counted, .ref q_madeCodes, .ref q_guardsFailed, .ref q_codeCalls, .ref q_value, .ref q_isLike, .ref q_doesVary, .ref q_partMany, .ref q_starts, .ref q_partOp, .ref q_partD, .ref q_partA, .ref q_partB, .ref q_partOf, .ref q_assumed, .int 0, .int 0, .ref q_localKnown, .ref q_localIs, .ref q_placeKnown, .ref q_placeIs, .int 0, .ref q_frameMethod, .ref q_frameAt, .ref q_frameCode, .ref q_frameDepth, .ref q_register, .int 0, .int 0, .int 0, .int 0, .int 0, .int 0, .int 0, .ref q_trap, .ref q_first])), (q_fields, .inl (cI, 8, .inl (fun _ => 0)))] := hD
  obtain ⟨z_243, k_243⟩ : ∃ z, z = r_243_3 := ⟨_, rfl⟩
  rw [← k_243] at h_243_3 ⊢
  have hz_243 := h_243_3
  refine lv_aload_n hx hb dL_law_246 rfl (lv_at hl 1 rfl) ?_
  refine lv_aload_n hx hb dL_law_247 rfl (lv_at hl 3 rfl) ?_
  refine lv_iload_n hx hb dL_law_248 rfl (lv_at hl 0 rfl) ?_
  refine lv_iconst (v := 1) hx hb dL_law_249 (by decide) ?_
  refine lv_iadd hx hb dL_law_250 ?_
  refine lv_topi (fun y_4 e_4 => ?_)
  obtain rfl : y_4 = 1 := by rw [e_4]; decide
  have hin_251 : vp_in 1 5 := by unfold vp_in; decide
  refine va_sld hx hb hX hbl hbA hS hin_251 dL_law_251 ?_
  refine lv_aload_n hx hb dL_law_252 rfl (lv_at hl 3 rfl) ?_
  refine lv_iload_n hx hb dL_law_253 rfl (lv_at hl 0 rfl) ?_
  refine lv_iconst (v := 2) hx hb dL_law_254 (by decide) ?_
  refine lv_iadd hx hb dL_law_255 ?_
  refine lv_topi (fun y_5 e_5 => ?_)
  obtain rfl : y_5 = 2 := by rw [e_5]; decide
  have hin_256 : vp_in 2 5 := by unfold vp_in; decide
  refine va_sld hx hb hX hbl hbA hS hin_256 dL_law_256 ?_
  have hPc := hP.sub (ws' := [(m0, .inr (12, [.int 0, .ref q_args, .ref q_locals, .ref q_many, .ref q_op, .ref q_operand, .ref q_isLooked, .ref q_depths, .ref q_deepest, .int 0, .ref q_waits, .ref q_gone, .ref q_fields, .ref q_sizes, .ref q_rows, .ref q_hasCode, .ref q_counted, .ref q_madeCodes, .ref q_guardsFailed, .ref q_codeCalls, .ref q_value, .ref q_isLike, .ref q_doesVary, .ref q_partMany, .ref q_starts, .ref q_partOp, .ref q_partD, .ref q_partA, .ref q_partB, .ref q_partOf, .ref q_assumed, .int 0, .int 0, .ref q_localKnown, .ref q_localIs, .ref q_placeKnown, .ref q_placeIs, .int 0, .ref q_frameMethod, .ref q_frameAt, .ref q_frameCode, .ref q_frameDepth, .ref q_register, .int 0, .int 0, .int 0, .int 0, .int 0, .int 0, .int 0, .ref q_trap, .ref q_first])), (q_fields, .inl (cI, 8, .inl (fun _ => 0)))]) [0, 1] rfl
  have hDc := hD.sub (ws' := [(m0, .inr (12, [.int 0, .ref q_args, .ref q_locals, .ref q_many, .ref q_op, .ref q_operand, .ref q_isLooked, .ref q_depths, .ref q_deepest, .int 0, .ref q_waits, .ref q_gone, .ref q_fields, .ref q_sizes, .ref q_rows, .ref q_hasCode, .ref q_counted, .ref q_madeCodes, .ref q_guardsFailed, .ref q_codeCalls, .ref q_value, .ref q_isLike, .ref q_doesVary, .ref q_partMany, .ref q_starts, .ref q_partOp, .ref q_partD, .ref q_partA, .ref q_partB, .ref q_partOf, .ref q_assumed, .int 0, .int 0, .ref q_localKnown, .ref q_localIs, .ref q_placeKnown, .ref q_placeIs, .int 0, .ref q_frameMethod, .ref q_frameAt, .ref q_frameCode, .ref q_frameDepth, .ref q_register, .int 0, .int 0, .int 0, .int 0, .int 0, .int 0, .int 0, .ref q_trap, .ref q_first])), (q_fields, .inl (cI, 8, .inl (fun _ => 0)))]) [0, 1] (by decide) rfl
  have hFc := va_free (wc := [(m0, .inr (12, [.int 0, .ref q_args, .ref q_locals, .ref q_many, .ref q_op, .ref q_operand, .ref q_isLooked, .ref q_depths, .ref q_deepest, .int 0, .ref q_waits, .ref q_gone, .ref q_fields, .ref q_sizes, .ref q_rows, .ref q_hasCode, .ref q_counted, .ref q_madeCodes, .ref q_guardsFailed, .ref q_codeCalls, .ref q_value, .ref q_isLike, .ref q_doesVary, .ref q_partMany, .ref q_starts, .ref q_partOp, .ref q_partD, .ref q_partA, .ref q_partB, .ref q_partOf, .ref q_assumed, .int 0, .int 0, .ref q_localKnown, .ref q_localIs, .ref q_placeKnown, .ref q_placeIs, .int 0, .ref q_frameMethod, .ref q_frameAt, .ref q_frameCode, .ref q_frameDepth, .ref q_register, .int 0, .int 0, .int 0, .int 0, .int 0, .int 0, .int 0, .ref q_trap, .ref q_first])), (q_fields, .inl (cI, 8, .inl (fun _ => 0)))]) hD hS hA [0, 1] rfl
  refine va_calli (va_runV (As := [.int (xs (1 : Int32).toNatClampNeg), .int (xs (2 : Int32).toNatClampNeg)]) (rest := [.int z_243]) ⟨hx, hb, hml, hown, hts⟩ (zc_X12_keep l D cI cZ cP cF m0 q_args q_locals q_many q_op q_operand q_isLooked q_depths q_deepest q_waits q_gone q_fields q_sizes q_rows q_hasCode q_counted q_madeCodes q_guardsFailed q_codeCalls q_value q_isLike q_doesVary q_partMany q_starts q_partOp q_partD q_partA q_partB q_partOf q_assumed q_localKnown q_localIs q_placeKnown q_placeIs q_frameMethod q_frameAt q_frameCode q_frameDepth q_register q_trap q_first (xs (1 : Int32).toNatClampNeg) (xs (2 : Int32).toNatClampNeg) H.size) (cwV 2 hts zg_law_zc_X12_keep rfl rfl rfl (by decide +kernel) ⟨Nat.le_of_ble_eq_true rfl, Nat.le_of_ble_eq_true rfl⟩) ⟨zBW, va_recv hK hPc (ci := 12) (q0 := 0) rfl rfl, fun U hU hW => ⟨rfl, by rw [hU], by rw [hU]; exact hPc, hE.warm hW, hDc.weaken (fun _ _ _ _ => trivial)⟩⟩ rfl rfl hl.1 rfl (lv_room (Nat.le_of_ble_eq_true rfl)) dL_law_257 ⟨Nat.le_of_ble_eq_true rfl, Nat.le_of_ble_eq_true rfl⟩) hS (fun q _ h => hFc q h) hFc (fun r_257_6 u t H1 locs ht hvm h_257_6 hB hz1 hk1 hS => ?_)
  obtain ⟨hP1, hD1⟩ := hB
  rw [ht] at hP1
  obtain ⟨hP, hD⟩ := va_join (wr := []) (w1 := []) hP hD [0, 1] [] rfl rfl (by decide) (by decide) hk1 hFc hP1 hD1
  generalize H1 = H at hP hS ⊢
  have hP : va_P D vwCl [] H := hP
  have hD : va_D A [] := hD
  obtain ⟨z_257, k_257⟩ : ∃ z, z = r_257_6 := ⟨_, rfl⟩
  rw [← k_257] at h_257_6 ⊢
  have hz_257 := h_257_6
  refine lv_icmp_eq (tgt := 635) hx hb dL_law_260 (by decide) (fun c_260 => ?_) (fun c_260 => absurd (hz_243.trans hz_257.symm) c_260)
  exact zl_tail l C0 hA hbA hfin (Nat.le_of_ble_eq_true rfl) (Nat.le_of_ble_eq_true rfl) hS (lv_sub hl [0, 3] rfl)

set_option maxHeartbeats 4000000 in
set_option maxRecDepth 100000 in
theorem zl_5 {p : Program} {e : Env} {s : State} {m : MethodId} {below : List Frame} {meth : Method} {c : Code} (l : Launch) {bs : Nat} {xs : Nat → Int32} (C0 : lw_At p s m meth c bs 5 xs) {A : Nat → Prop} (hA : ∀ q : Nat, s.heap.size ≤ q → A q) (hbA : ¬ A bs) (hfin : ∀ q : Nat, A q → s.heap.size ≤ q) {D : va_G} {cI cZ cP cF : Nat} (hE : zE D cI cZ cP cF s) {h0 b d lo ma pr f le it dr wa sm ta fr ha tr m0 q_args q_locals q_many q_op q_operand q_isLooked q_depths q_deepest q_waits q_gone q_fields q_sizes q_rows q_hasCode q_counted q_madeCodes q_guardsFailed q_codeCalls q_value q_isLike q_doesVary q_partMany q_starts q_partOp q_partD q_partA q_partB q_partOf q_assumed q_localKnown q_localIs q_placeKnown q_placeIs q_frameMethod q_frameAt q_frameCode q_frameDepth q_register q_trap q_first : Nat} {g g2 : Nat → Int32} (hM : zM4 g) (hM2 : zM4 g2) {H : Heap} {locs : List Loc} {ls : Array Slot} (hP : va_P D vwCl [(h0, .inr (11, [.ref b, .ref d, .ref lo, .ref ma])), (d, .inr (2, [.ref f, .ref le, .ref it])), (f, .inl (cI, 8, .inl (fun _ => 0))), (m0, .inr (12, [.int 0, .ref q_args, .ref q_locals, .ref q_many, .ref q_op, .ref q_operand, .ref q_isLooked, .ref q_depths, .ref q_deepest, .int 0, .ref q_waits, .ref q_gone, .ref q_fields, .ref q_sizes, .ref q_rows, .ref q_hasCode, .ref q_counted, .ref q_madeCodes, .ref q_guardsFailed, .ref q_codeCalls, .ref q_value, .ref q_isLike, .ref q_doesVary, .ref q_partMany, .ref q_starts, .ref q_partOp, .ref q_partD, .ref q_partA, .ref q_partB, .ref q_partOf, .ref q_assumed, .int 0, .int 0, .ref q_localKnown, .ref q_localIs, .ref q_placeKnown, .ref q_placeIs, .int 0, .ref q_frameMethod, .ref q_frameAt, .ref q_frameCode, .ref q_frameDepth, .ref q_register, .int 0, .int 0, .int 0, .int 0, .int 0, .int 0, .int 0, .ref q_trap, .ref q_first])), (q_fields, .inl (cI, 8, .inl (fun _ => 0)))] H) (hD : va_D A [(h0, .inr (11, [.ref b, .ref d, .ref lo, .ref ma])), (d, .inr (2, [.ref f, .ref le, .ref it])), (f, .inl (cI, 8, .inl (fun _ => 0))), (m0, .inr (12, [.int 0, .ref q_args, .ref q_locals, .ref q_many, .ref q_op, .ref q_operand, .ref q_isLooked, .ref q_depths, .ref q_deepest, .int 0, .ref q_waits, .ref q_gone, .ref q_fields, .ref q_sizes, .ref q_rows, .ref q_hasCode, .ref q_counted, .ref q_madeCodes, .ref q_guardsFailed, .ref q_codeCalls, .ref q_value, .ref q_isLike, .ref q_doesVary, .ref q_partMany, .ref q_starts, .ref q_partOp, .ref q_partD, .ref q_partA, .ref q_partB, .ref q_partOf, .ref q_assumed, .int 0, .int 0, .ref q_localKnown, .ref q_localIs, .ref q_placeKnown, .ref q_placeIs, .int 0, .ref q_frameMethod, .ref q_frameAt, .ref q_frameCode, .ref q_frameDepth, .ref q_register, .int 0, .int 0, .int 0, .int 0, .int 0, .int 0, .int 0, .ref q_trap, .ref q_first])), (q_fields, .inl (cI, 8, .inl (fun _ => 0)))]) (hS : va_S A s.heap H locs) (hl : lv_has ls 4 [(3, .int 0), (2, .ref m0), (1, .ref h0), (0, .ref bs)]) : W p l e room_1 s m #[Value.ref bs] below meth c H locs 95 323715 (lw_Z below #[Value.ref bs] s) (F0 m 265 ls []) := by
  obtain ⟨hx, hb, hr, hml, hown, hts0, hX, hbl, hlocks, hgv⟩ := id C0
  have hts : ∀ w ∈ zw_law, w.before #[Value.ref bs] s = true := fun w h => hts0 w (zw_law_in w h)
  have hown : s.vm.findClass RL = some m.cls := hown
  have hK := hE.k
  refine lv_aload_n hx hb dL_law_265 rfl (lv_at hl 2 rfl) ?_
  refine lv_aload_n hx hb dL_law_266 rfl (lv_at hl 3 rfl) ?_
  refine lv_iload_n hx hb dL_law_267 rfl (lv_at hl 0 rfl) ?_
  refine lv_iconst (v := 1) hx hb dL_law_268 (by decide) ?_
  refine lv_iadd hx hb dL_law_269 ?_
  refine lv_topi (fun y_1 e_1 => ?_)
  obtain rfl : y_1 = 1 := by rw [e_1]; decide
  have hin_270 : vp_in 1 5 := by unfold vp_in; decide
  refine va_sld hx hb hX hbl hbA hS hin_270 dL_law_270 ?_
  have hPc := hP.sub (ws' := [(h0, .inr (11, [.ref b, .ref d, .ref lo, .ref ma])), (d, .inr (2, [.ref f, .ref le, .ref it])), (f, .inl (cI, 8, .inl (fun _ => 0)))]) [0, 1, 2] rfl
  refine vp_callSi (va_Run.run (va_runV (As := [.int (xs (1 : Int32).toNatClampNeg)]) (rest := []) ⟨hx, hb, hml, hown, hts⟩ (zc_X11_field l D cI cZ cP cF h0 b d lo ma f le it (xs (1 : Int32).toNatClampNeg)) (cwV 1 hts zg_law_zc_X11_field rfl rfl rfl (by decide +kernel) ⟨Nat.le_of_ble_eq_true rfl, Nat.le_of_ble_eq_true rfl⟩) ⟨zBR, va_recv hK hPc (ci := 11) (q0 := 0) rfl rfl, fun U hU hW => ⟨rfl, by rw [hU]; exact hPc, hE.warm hW⟩⟩ rfl rfl hl.1 rfl (lv_room (Nat.le_of_ble_eq_true rfl)) dL_law_271 ⟨Nat.le_of_ble_eq_true rfl, Nat.le_of_ble_eq_true rfl⟩)) (fun r_271_2 h_271_2 => ?_)
  obtain ⟨z_271, k_271⟩ : ∃ z, z = r_271_2 := ⟨_, rfl⟩
  rw [← k_271] at h_271_2 ⊢
  have hz_271 := h_271_2
  refine lv_aload_n hx hb dL_law_274 rfl (lv_at hl 1 rfl) ?_
  refine lv_aload_n hx hb dL_law_275 rfl (lv_at hl 3 rfl) ?_
  refine lv_iload_n hx hb dL_law_276 rfl (lv_at hl 0 rfl) ?_
  refine lv_iconst (v := 1) hx hb dL_law_277 (by decide) ?_
  refine lv_iadd hx hb dL_law_278 ?_
  refine lv_topi (fun y_3 e_3 => ?_)
  obtain rfl : y_3 = 1 := by rw [e_3]; decide
  have hin_279 : vp_in 1 5 := by unfold vp_in; decide
  refine va_sld hx hb hX hbl hbA hS hin_279 dL_law_279 ?_
  have hPc := hP.sub (ws' := [(m0, .inr (12, [.int 0, .ref q_args, .ref q_locals, .ref q_many, .ref q_op, .ref q_operand, .ref q_isLooked, .ref q_depths, .ref q_deepest, .int 0, .ref q_waits, .ref q_gone, .ref q_fields, .ref q_sizes, .ref q_rows, .ref q_hasCode, .ref q_counted, .ref q_madeCodes, .ref q_guardsFailed, .ref q_codeCalls, .ref q_value, .ref q_isLike, .ref q_doesVary, .ref q_partMany, .ref q_starts, .ref q_partOp, .ref q_partD, .ref q_partA, .ref q_partB, .ref q_partOf, .ref q_assumed, .int 0, .int 0, .ref q_localKnown, .ref q_localIs, .ref q_placeKnown, .ref q_placeIs, .int 0, .ref q_frameMethod, .ref q_frameAt, .ref q_frameCode, .ref q_frameDepth, .ref q_register, .int 0, .int 0, .int 0, .int 0, .int 0, .int 0, .int 0, .ref q_trap, .ref q_first])), (q_fields, .inl (cI, 8, .inl (fun _ => 0)))]) [3, 4] rfl
  refine vp_callSi (va_Run.run (va_runV (As := [.int (xs (1 : Int32).toNatClampNeg)]) (rest := [.int z_271]) ⟨hx, hb, hml, hown, hts⟩ (zc_X12_field l D cI cZ cP cF m0 q_args q_locals q_many q_op q_operand q_isLooked q_depths q_deepest q_waits q_gone q_fields q_sizes q_rows q_hasCode q_counted q_madeCodes q_guardsFailed q_codeCalls q_value q_isLike q_doesVary q_partMany q_starts q_partOp q_partD q_partA q_partB q_partOf q_assumed q_localKnown q_localIs q_placeKnown q_placeIs q_frameMethod q_frameAt q_frameCode q_frameDepth q_register q_trap q_first (xs (1 : Int32).toNatClampNeg)) (cwV 1 hts zg_law_zc_X12_field rfl rfl rfl (by decide +kernel) ⟨Nat.le_of_ble_eq_true rfl, Nat.le_of_ble_eq_true rfl⟩) ⟨zBR, va_recv hK hPc (ci := 12) (q0 := 0) rfl rfl, fun U hU hW => ⟨rfl, by rw [hU]; exact hPc, hE.warm hW⟩⟩ rfl rfl hl.1 rfl (lv_room (Nat.le_of_ble_eq_true rfl)) dL_law_280 ⟨Nat.le_of_ble_eq_true rfl, Nat.le_of_ble_eq_true rfl⟩)) (fun r_280_4 h_280_4 => ?_)
  obtain ⟨z_280, k_280⟩ : ∃ z, z = r_280_4 := ⟨_, rfl⟩
  rw [← k_280] at h_280_4 ⊢
  have hz_280 := h_280_4
  refine lv_icmp_eq (tgt := 635) hx hb dL_law_283 (by decide) (fun c_283 => ?_) (fun c_283 => absurd (hz_271.trans hz_280.symm) c_283)
  exact zl_tail l C0 hA hbA hfin (Nat.le_of_ble_eq_true rfl) (Nat.le_of_ble_eq_true rfl) hS (lv_sub hl [0, 3] rfl)

set_option maxHeartbeats 4000000 in
set_option maxRecDepth 100000 in
theorem zl_6 {p : Program} {e : Env} {s : State} {m : MethodId} {below : List Frame} {meth : Method} {c : Code} (l : Launch) {bs : Nat} {xs : Nat → Int32} (C0 : lw_At p s m meth c bs 5 xs) {A : Nat → Prop} (hA : ∀ q : Nat, s.heap.size ≤ q → A q) (hbA : ¬ A bs) (hfin : ∀ q : Nat, A q → s.heap.size ≤ q) {D : va_G} {cI cZ cP cF : Nat} (hE : zE D cI cZ cP cF s) {h0 b d lo ma pr f le it dr wa sm ta fr ha tr m0 q_args q_locals q_many q_op q_operand q_isLooked q_depths q_deepest q_waits q_gone q_fields q_sizes q_rows q_hasCode q_counted q_madeCodes q_guardsFailed q_codeCalls q_value q_isLike q_doesVary q_partMany q_starts q_partOp q_partD q_partA q_partB q_partOf q_assumed q_localKnown q_localIs q_placeKnown q_placeIs q_frameMethod q_frameAt q_frameCode q_frameDepth q_register q_trap q_first : Nat} {g g2 : Nat → Int32} (hM : zM4 g) (hM2 : zM4 g2) {H : Heap} {locs : List Loc} {ls : Array Slot} (hP : va_P D vwCl [(h0, .inr (11, [.ref b, .ref d, .ref lo, .ref ma])), (d, .inr (2, [.ref f, .ref le, .ref it])), (le, .inl (cI, 4, .inl g)), (it, .inl (cI, 80, .inl (fun _ => 0))), (m0, .inr (12, [.int 0, .ref q_args, .ref q_locals, .ref q_many, .ref q_op, .ref q_operand, .ref q_isLooked, .ref q_depths, .ref q_deepest, .int 0, .ref q_waits, .ref q_gone, .ref q_fields, .ref q_sizes, .ref q_rows, .ref q_hasCode, .ref q_counted, .ref q_madeCodes, .ref q_guardsFailed, .ref q_codeCalls, .ref q_value, .ref q_isLike, .ref q_doesVary, .ref q_partMany, .ref q_starts, .ref q_partOp, .ref q_partD, .ref q_partA, .ref q_partB, .ref q_partOf, .ref q_assumed, .int 0, .int 0, .ref q_localKnown, .ref q_localIs, .ref q_placeKnown, .ref q_placeIs, .int 0, .ref q_frameMethod, .ref q_frameAt, .ref q_frameCode, .ref q_frameDepth, .ref q_register, .int 0, .int 0, .int 0, .int 0, .int 0, .int 0, .int 0, .ref q_trap, .ref q_first])), (q_sizes, .inl (cI, 4, .inl g2))] H) (hD : va_D A [(h0, .inr (11, [.ref b, .ref d, .ref lo, .ref ma])), (d, .inr (2, [.ref f, .ref le, .ref it])), (le, .inl (cI, 4, .inl g)), (it, .inl (cI, 80, .inl (fun _ => 0))), (m0, .inr (12, [.int 0, .ref q_args, .ref q_locals, .ref q_many, .ref q_op, .ref q_operand, .ref q_isLooked, .ref q_depths, .ref q_deepest, .int 0, .ref q_waits, .ref q_gone, .ref q_fields, .ref q_sizes, .ref q_rows, .ref q_hasCode, .ref q_counted, .ref q_madeCodes, .ref q_guardsFailed, .ref q_codeCalls, .ref q_value, .ref q_isLike, .ref q_doesVary, .ref q_partMany, .ref q_starts, .ref q_partOp, .ref q_partD, .ref q_partA, .ref q_partB, .ref q_partOf, .ref q_assumed, .int 0, .int 0, .ref q_localKnown, .ref q_localIs, .ref q_placeKnown, .ref q_placeIs, .int 0, .ref q_frameMethod, .ref q_frameAt, .ref q_frameCode, .ref q_frameDepth, .ref q_register, .int 0, .int 0, .int 0, .int 0, .int 0, .int 0, .int 0, .ref q_trap, .ref q_first])), (q_sizes, .inl (cI, 4, .inl g2))]) (hS : va_S A s.heap H locs) (hl : lv_has ls 4 [(3, .int 0), (2, .ref m0), (1, .ref h0), (0, .ref bs)]) : W p l e room_1 s m #[Value.ref bs] below meth c H locs 95 323715 (lw_Z below #[Value.ref bs] s) (F0 m 288 ls []) := by
  obtain ⟨hx, hb, hr, hml, hown, hts0, hX, hbl, hlocks, hgv⟩ := id C0
  have hts : ∀ w ∈ zw_law, w.before #[Value.ref bs] s = true := fun w h => hts0 w (zw_law_in w h)
  have hown : s.vm.findClass RL = some m.cls := hown
  have hK := hE.k
  refine lv_aload_n hx hb dL_law_288 rfl (lv_at hl 2 rfl) ?_
  refine lv_aload_n hx hb dL_law_289 rfl (lv_at hl 3 rfl) ?_
  refine lv_iload_n hx hb dL_law_290 rfl (lv_at hl 0 rfl) ?_
  refine lv_iconst (v := 1) hx hb dL_law_291 (by decide) ?_
  refine lv_iadd hx hb dL_law_292 ?_
  refine lv_topi (fun y_1 e_1 => ?_)
  obtain rfl : y_1 = 1 := by rw [e_1]; decide
  have hin_293 : vp_in 1 5 := by unfold vp_in; decide
  refine va_sld hx hb hX hbl hbA hS hin_293 dL_law_293 ?_
  have hPc := hP.sub (ws' := [(h0, .inr (11, [.ref b, .ref d, .ref lo, .ref ma])), (d, .inr (2, [.ref f, .ref le, .ref it])), (le, .inl (cI, 4, .inl g)), (it, .inl (cI, 80, .inl (fun _ => 0)))]) [0, 1, 2, 3] rfl
  have hDc := hD.sub (ws' := [(h0, .inr (11, [.ref b, .ref d, .ref lo, .ref ma])), (d, .inr (2, [.ref f, .ref le, .ref it])), (le, .inl (cI, 4, .inl g)), (it, .inl (cI, 80, .inl (fun _ => 0)))]) [0, 1, 2, 3] (by decide) rfl
  have hFc := va_free (wc := [(h0, .inr (11, [.ref b, .ref d, .ref lo, .ref ma])), (d, .inr (2, [.ref f, .ref le, .ref it])), (le, .inl (cI, 4, .inl g)), (it, .inl (cI, 80, .inl (fun _ => 0)))]) hD hS hA [0, 1, 2, 3] rfl
  refine va_calli (va_runV (As := [.int (xs (1 : Int32).toNatClampNeg)]) (rest := []) ⟨hx, hb, hml, hown, hts⟩ (zc_X11_lose l D cI cZ cP cF h0 b d lo ma f le it g (xs (1 : Int32).toNatClampNeg) H.size hM) (cwV 1 hts zg_law_zc_X11_lose rfl rfl rfl (by decide +kernel) ⟨Nat.le_of_ble_eq_true rfl, Nat.le_of_ble_eq_true rfl⟩) ⟨zBW, va_recv hK hPc (ci := 11) (q0 := 0) rfl rfl, fun U hU hW => ⟨rfl, by rw [hU], by rw [hU]; exact hPc, hE.warm hW, hDc.weaken (fun _ _ _ _ => trivial)⟩⟩ rfl rfl hl.1 rfl (lv_room (Nat.le_of_ble_eq_true rfl)) dL_law_294 ⟨Nat.le_of_ble_eq_true rfl, Nat.le_of_ble_eq_true rfl⟩) hS (fun q _ h => hFc q h) hFc (fun r_294_2 u t H1 locs ht hvm h_294_2 hB hz1 hk1 hS => ?_)
  obtain ⟨hP1, hD1⟩ := hB
  rw [ht] at hP1
  obtain ⟨hP, hD⟩ := va_join (wr := [(m0, .inr (12, [.int 0, .ref q_args, .ref q_locals, .ref q_many, .ref q_op, .ref q_operand, .ref q_isLooked, .ref q_depths, .ref q_deepest, .int 0, .ref q_waits, .ref q_gone, .ref q_fields, .ref q_sizes, .ref q_rows, .ref q_hasCode, .ref q_counted, .ref q_madeCodes, .ref q_guardsFailed, .ref q_codeCalls, .ref q_value, .ref q_isLike, .ref q_doesVary, .ref q_partMany, .ref q_starts, .ref q_partOp, .ref q_partD, .ref q_partA, .ref q_partB, .ref q_partOf, .ref q_assumed, .int 0, .int 0, .ref q_localKnown, .ref q_localIs, .ref q_placeKnown, .ref q_placeIs, .int 0, .ref q_frameMethod, .ref q_frameAt, .ref q_frameCode, .ref q_frameDepth, .ref q_register, .int 0, .int 0, .int 0, .int 0, .int 0, .int 0, .int 0, .ref q_trap, .ref q_first])), (q_sizes, .inl (cI, 4, .inl g2))]) (w1 := []) hP hD [0, 1, 2, 3] [4, 5] rfl rfl (by decide) (by decide) hk1 hFc hP1 hD1
  generalize H1 = H at hP hS ⊢
  have hP : va_P D vwCl [(m0, .inr (12, [.int 0, .ref q_args, .ref q_locals, .ref q_many, .ref q_op, .ref q_operand, .ref q_isLooked, .ref q_depths, .ref q_deepest, .int 0, .ref q_waits, .ref q_gone, .ref q_fields, .ref q_sizes, .ref q_rows, .ref q_hasCode, .ref q_counted, .ref q_madeCodes, .ref q_guardsFailed, .ref q_codeCalls, .ref q_value, .ref q_isLike, .ref q_doesVary, .ref q_partMany, .ref q_starts, .ref q_partOp, .ref q_partD, .ref q_partA, .ref q_partB, .ref q_partOf, .ref q_assumed, .int 0, .int 0, .ref q_localKnown, .ref q_localIs, .ref q_placeKnown, .ref q_placeIs, .int 0, .ref q_frameMethod, .ref q_frameAt, .ref q_frameCode, .ref q_frameDepth, .ref q_register, .int 0, .int 0, .int 0, .int 0, .int 0, .int 0, .int 0, .ref q_trap, .ref q_first])), (q_sizes, .inl (cI, 4, .inl g2))] H := hP
  have hD : va_D A [(m0, .inr (12, [.int 0, .ref q_args, .ref q_locals, .ref q_many, .ref q_op, .ref q_operand, .ref q_isLooked, .ref q_depths, .ref q_deepest, .int 0, .ref q_waits, .ref q_gone, .ref q_fields, .ref q_sizes, .ref q_rows, .ref q_hasCode, .ref q_counted, .ref q_madeCodes, .ref q_guardsFailed, .ref q_codeCalls, .ref q_value, .ref q_isLike, .ref q_doesVary, .ref q_partMany, .ref q_starts, .ref q_partOp, .ref q_partD, .ref q_partA, .ref q_partB, .ref q_partOf, .ref q_assumed, .int 0, .int 0, .ref q_localKnown, .ref q_localIs, .ref q_placeKnown, .ref q_placeIs, .int 0, .ref q_frameMethod, .ref q_frameAt, .ref q_frameCode, .ref q_frameDepth, .ref q_register, .int 0, .int 0, .int 0, .int 0, .int 0, .int 0, .int 0, .ref q_trap, .ref q_first])), (q_sizes, .inl (cI, 4, .inl g2))] := hD
  obtain ⟨z_294, k_294⟩ : ∃ z, z = r_294_2 := ⟨_, rfl⟩
  rw [← k_294] at h_294_2 ⊢
  have hz_294 := h_294_2
  refine lv_aload_n hx hb dL_law_297 rfl (lv_at hl 1 rfl) ?_
  refine lv_aload_n hx hb dL_law_298 rfl (lv_at hl 3 rfl) ?_
  refine lv_iload_n hx hb dL_law_299 rfl (lv_at hl 0 rfl) ?_
  refine lv_iconst (v := 1) hx hb dL_law_300 (by decide) ?_
  refine lv_iadd hx hb dL_law_301 ?_
  refine lv_topi (fun y_3 e_3 => ?_)
  obtain rfl : y_3 = 1 := by rw [e_3]; decide
  have hin_302 : vp_in 1 5 := by unfold vp_in; decide
  refine va_sld hx hb hX hbl hbA hS hin_302 dL_law_302 ?_
  have hPc := hP.sub (ws' := [(m0, .inr (12, [.int 0, .ref q_args, .ref q_locals, .ref q_many, .ref q_op, .ref q_operand, .ref q_isLooked, .ref q_depths, .ref q_deepest, .int 0, .ref q_waits, .ref q_gone, .ref q_fields, .ref q_sizes, .ref q_rows, .ref q_hasCode, .ref q_counted, .ref q_madeCodes, .ref q_guardsFailed, .ref q_codeCalls, .ref q_value, .ref q_isLike, .ref q_doesVary, .ref q_partMany, .ref q_starts, .ref q_partOp, .ref q_partD, .ref q_partA, .ref q_partB, .ref q_partOf, .ref q_assumed, .int 0, .int 0, .ref q_localKnown, .ref q_localIs, .ref q_placeKnown, .ref q_placeIs, .int 0, .ref q_frameMethod, .ref q_frameAt, .ref q_frameCode, .ref q_frameDepth, .ref q_register, .int 0, .int 0, .int 0, .int 0, .int 0, .int 0, .int 0, .ref q_trap, .ref q_first])), (q_sizes, .inl (cI, 4, .inl g2))]) [0, 1] rfl
  have hDc := hD.sub (ws' := [(m0, .inr (12, [.int 0, .ref q_args, .ref q_locals, .ref q_many, .ref q_op, .ref q_operand, .ref q_isLooked, .ref q_depths, .ref q_deepest, .int 0, .ref q_waits, .ref q_gone, .ref q_fields, .ref q_sizes, .ref q_rows, .ref q_hasCode, .ref q_counted, .ref q_madeCodes, .ref q_guardsFailed, .ref q_codeCalls, .ref q_value, .ref q_isLike, .ref q_doesVary, .ref q_partMany, .ref q_starts, .ref q_partOp, .ref q_partD, .ref q_partA, .ref q_partB, .ref q_partOf, .ref q_assumed, .int 0, .int 0, .ref q_localKnown, .ref q_localIs, .ref q_placeKnown, .ref q_placeIs, .int 0, .ref q_frameMethod, .ref q_frameAt, .ref q_frameCode, .ref q_frameDepth, .ref q_register, .int 0, .int 0, .int 0, .int 0, .int 0, .int 0, .int 0, .ref q_trap, .ref q_first])), (q_sizes, .inl (cI, 4, .inl g2))]) [0, 1] (by decide) rfl
  have hFc := va_free (wc := [(m0, .inr (12, [.int 0, .ref q_args, .ref q_locals, .ref q_many, .ref q_op, .ref q_operand, .ref q_isLooked, .ref q_depths, .ref q_deepest, .int 0, .ref q_waits, .ref q_gone, .ref q_fields, .ref q_sizes, .ref q_rows, .ref q_hasCode, .ref q_counted, .ref q_madeCodes, .ref q_guardsFailed, .ref q_codeCalls, .ref q_value, .ref q_isLike, .ref q_doesVary, .ref q_partMany, .ref q_starts, .ref q_partOp, .ref q_partD, .ref q_partA, .ref q_partB, .ref q_partOf, .ref q_assumed, .int 0, .int 0, .ref q_localKnown, .ref q_localIs, .ref q_placeKnown, .ref q_placeIs, .int 0, .ref q_frameMethod, .ref q_frameAt, .ref q_frameCode, .ref q_frameDepth, .ref q_register, .int 0, .int 0, .int 0, .int 0, .int 0, .int 0, .int 0, .ref q_trap, .ref q_first])), (q_sizes, .inl (cI, 4, .inl g2))]) hD hS hA [0, 1] rfl
  refine va_calli (va_runV (As := [.int (xs (1 : Int32).toNatClampNeg)]) (rest := [.int z_294]) ⟨hx, hb, hml, hown, hts⟩ (zc_X12_lose l D cI cZ cP cF m0 q_args q_locals q_many q_op q_operand q_isLooked q_depths q_deepest q_waits q_gone q_fields q_sizes q_rows q_hasCode q_counted q_madeCodes q_guardsFailed q_codeCalls q_value q_isLike q_doesVary q_partMany q_starts q_partOp q_partD q_partA q_partB q_partOf q_assumed q_localKnown q_localIs q_placeKnown q_placeIs q_frameMethod q_frameAt q_frameCode q_frameDepth q_register q_trap q_first g2 (xs (1 : Int32).toNatClampNeg) H.size hM2) (cwV 1 hts zg_law_zc_X12_lose rfl rfl rfl (by decide +kernel) ⟨Nat.le_of_ble_eq_true rfl, Nat.le_of_ble_eq_true rfl⟩) ⟨zBW, va_recv hK hPc (ci := 12) (q0 := 0) rfl rfl, fun U hU hW => ⟨rfl, by rw [hU], by rw [hU]; exact hPc, hE.warm hW, hDc.weaken (fun _ _ _ _ => trivial)⟩⟩ rfl rfl hl.1 rfl (lv_room (Nat.le_of_ble_eq_true rfl)) dL_law_303 ⟨Nat.le_of_ble_eq_true rfl, Nat.le_of_ble_eq_true rfl⟩) hS (fun q _ h => hFc q h) hFc (fun r_303_4 u t H1 locs ht hvm h_303_4 hB hz1 hk1 hS => ?_)
  obtain ⟨hP1, hD1⟩ := hB
  rw [ht] at hP1
  obtain ⟨hP, hD⟩ := va_join (wr := []) (w1 := []) hP hD [0, 1] [] rfl rfl (by decide) (by decide) hk1 hFc hP1 hD1
  generalize H1 = H at hP hS ⊢
  have hP : va_P D vwCl [] H := hP
  have hD : va_D A [] := hD
  obtain ⟨z_303, k_303⟩ : ∃ z, z = r_303_4 := ⟨_, rfl⟩
  rw [← k_303] at h_303_4 ⊢
  have hz_303 := h_303_4
  refine lv_icmp_eq (tgt := 635) hx hb dL_law_306 (by decide) (fun c_306 => ?_) (fun c_306 => absurd (hz_294.trans hz_303.symm) c_306)
  exact zl_tail l C0 hA hbA hfin (Nat.le_of_ble_eq_true rfl) (Nat.le_of_ble_eq_true rfl) hS (lv_sub hl [0, 3] rfl)

set_option maxHeartbeats 4000000 in
set_option maxRecDepth 100000 in
theorem zl_7 {p : Program} {e : Env} {s : State} {m : MethodId} {below : List Frame} {meth : Method} {c : Code} (l : Launch) {bs : Nat} {xs : Nat → Int32} (C0 : lw_At p s m meth c bs 5 xs) {A : Nat → Prop} (hA : ∀ q : Nat, s.heap.size ≤ q → A q) (hbA : ¬ A bs) (hfin : ∀ q : Nat, A q → s.heap.size ≤ q) {D : va_G} {cI cZ cP cF : Nat} (hE : zE D cI cZ cP cF s) {h0 b d lo ma pr f le it dr wa sm ta fr ha tr m0 q_args q_locals q_many q_op q_operand q_isLooked q_depths q_deepest q_waits q_gone q_fields q_sizes q_rows q_hasCode q_counted q_madeCodes q_guardsFailed q_codeCalls q_value q_isLike q_doesVary q_partMany q_starts q_partOp q_partD q_partA q_partB q_partOf q_assumed q_localKnown q_localIs q_placeKnown q_placeIs q_frameMethod q_frameAt q_frameCode q_frameDepth q_register q_trap q_first : Nat} {g g2 : Nat → Int32} (hM : zM4 g) (hM2 : zM4 g2) {H : Heap} {locs : List Loc} {ls : Array Slot} (hP : va_P D vwCl [(h0, .inr (11, [.ref b, .ref d, .ref lo, .ref ma])), (d, .inr (2, [.ref f, .ref le, .ref it])), (le, .inl (cI, 4, .inl g)), (m0, .inr (12, [.int 0, .ref q_args, .ref q_locals, .ref q_many, .ref q_op, .ref q_operand, .ref q_isLooked, .ref q_depths, .ref q_deepest, .int 0, .ref q_waits, .ref q_gone, .ref q_fields, .ref q_sizes, .ref q_rows, .ref q_hasCode, .ref q_counted, .ref q_madeCodes, .ref q_guardsFailed, .ref q_codeCalls, .ref q_value, .ref q_isLike, .ref q_doesVary, .ref q_partMany, .ref q_starts, .ref q_partOp, .ref q_partD, .ref q_partA, .ref q_partB, .ref q_partOf, .ref q_assumed, .int 0, .int 0, .ref q_localKnown, .ref q_localIs, .ref q_placeKnown, .ref q_placeIs, .int 0, .ref q_frameMethod, .ref q_frameAt, .ref q_frameCode, .ref q_frameDepth, .ref q_register, .int 0, .int 0, .int 0, .int 0, .int 0, .int 0, .int 0, .ref q_trap, .ref q_first])), (q_sizes, .inl (cI, 4, .inl g2))] H) (hD : va_D A [(h0, .inr (11, [.ref b, .ref d, .ref lo, .ref ma])), (d, .inr (2, [.ref f, .ref le, .ref it])), (le, .inl (cI, 4, .inl g)), (m0, .inr (12, [.int 0, .ref q_args, .ref q_locals, .ref q_many, .ref q_op, .ref q_operand, .ref q_isLooked, .ref q_depths, .ref q_deepest, .int 0, .ref q_waits, .ref q_gone, .ref q_fields, .ref q_sizes, .ref q_rows, .ref q_hasCode, .ref q_counted, .ref q_madeCodes, .ref q_guardsFailed, .ref q_codeCalls, .ref q_value, .ref q_isLike, .ref q_doesVary, .ref q_partMany, .ref q_starts, .ref q_partOp, .ref q_partD, .ref q_partA, .ref q_partB, .ref q_partOf, .ref q_assumed, .int 0, .int 0, .ref q_localKnown, .ref q_localIs, .ref q_placeKnown, .ref q_placeIs, .int 0, .ref q_frameMethod, .ref q_frameAt, .ref q_frameCode, .ref q_frameDepth, .ref q_register, .int 0, .int 0, .int 0, .int 0, .int 0, .int 0, .int 0, .ref q_trap, .ref q_first])), (q_sizes, .inl (cI, 4, .inl g2))]) (hS : va_S A s.heap H locs) (hl : lv_has ls 4 [(3, .int 0), (2, .ref m0), (1, .ref h0), (0, .ref bs)]) : W p l e room_1 s m #[Value.ref bs] below meth c H locs 95 323715 (lw_Z below #[Value.ref bs] s) (F0 m 311 ls []) := by
  obtain ⟨hx, hb, hr, hml, hown, hts0, hX, hbl, hlocks, hgv⟩ := id C0
  have hts : ∀ w ∈ zw_law, w.before #[Value.ref bs] s = true := fun w h => hts0 w (zw_law_in w h)
  have hown : s.vm.findClass RL = some m.cls := hown
  have hK := hE.k
  refine lv_aload_n hx hb dL_law_311 rfl (lv_at hl 2 rfl) ?_
  refine lv_aload_n hx hb dL_law_312 rfl (lv_at hl 3 rfl) ?_
  refine lv_iload_n hx hb dL_law_313 rfl (lv_at hl 0 rfl) ?_
  refine lv_iconst (v := 1) hx hb dL_law_314 (by decide) ?_
  refine lv_iadd hx hb dL_law_315 ?_
  refine lv_topi (fun y_1 e_1 => ?_)
  obtain rfl : y_1 = 1 := by rw [e_1]; decide
  have hin_316 : vp_in 1 5 := by unfold vp_in; decide
  refine va_sld hx hb hX hbl hbA hS hin_316 dL_law_316 ?_
  have hPc := hP.sub (ws' := [(h0, .inr (11, [.ref b, .ref d, .ref lo, .ref ma])), (d, .inr (2, [.ref f, .ref le, .ref it])), (le, .inl (cI, 4, .inl g))]) [0, 1, 2] rfl
  refine vp_callSi (va_Run.run (va_runV (As := [.int (xs (1 : Int32).toNatClampNeg)]) (rest := []) ⟨hx, hb, hml, hown, hts⟩ (zc_X11_size l D cI cZ cP cF h0 b d lo ma f le it g (xs (1 : Int32).toNatClampNeg) hM) (cwV 1 hts zg_law_zc_X11_size rfl rfl rfl (by decide +kernel) ⟨Nat.le_of_ble_eq_true rfl, Nat.le_of_ble_eq_true rfl⟩) ⟨zBR, va_recv hK hPc (ci := 11) (q0 := 0) rfl rfl, fun U hU hW => ⟨rfl, by rw [hU]; exact hPc, hE.warm hW⟩⟩ rfl rfl hl.1 rfl (lv_room (Nat.le_of_ble_eq_true rfl)) dL_law_317 ⟨Nat.le_of_ble_eq_true rfl, Nat.le_of_ble_eq_true rfl⟩)) (fun r_317_2 h_317_2 => ?_)
  obtain ⟨z_317, k_317⟩ : ∃ z, z = r_317_2 := ⟨_, rfl⟩
  rw [← k_317] at h_317_2 ⊢
  have hz_317 := h_317_2
  refine lv_aload_n hx hb dL_law_320 rfl (lv_at hl 1 rfl) ?_
  refine lv_aload_n hx hb dL_law_321 rfl (lv_at hl 3 rfl) ?_
  refine lv_iload_n hx hb dL_law_322 rfl (lv_at hl 0 rfl) ?_
  refine lv_iconst (v := 1) hx hb dL_law_323 (by decide) ?_
  refine lv_iadd hx hb dL_law_324 ?_
  refine lv_topi (fun y_3 e_3 => ?_)
  obtain rfl : y_3 = 1 := by rw [e_3]; decide
  have hin_325 : vp_in 1 5 := by unfold vp_in; decide
  refine va_sld hx hb hX hbl hbA hS hin_325 dL_law_325 ?_
  have hPc := hP.sub (ws' := [(m0, .inr (12, [.int 0, .ref q_args, .ref q_locals, .ref q_many, .ref q_op, .ref q_operand, .ref q_isLooked, .ref q_depths, .ref q_deepest, .int 0, .ref q_waits, .ref q_gone, .ref q_fields, .ref q_sizes, .ref q_rows, .ref q_hasCode, .ref q_counted, .ref q_madeCodes, .ref q_guardsFailed, .ref q_codeCalls, .ref q_value, .ref q_isLike, .ref q_doesVary, .ref q_partMany, .ref q_starts, .ref q_partOp, .ref q_partD, .ref q_partA, .ref q_partB, .ref q_partOf, .ref q_assumed, .int 0, .int 0, .ref q_localKnown, .ref q_localIs, .ref q_placeKnown, .ref q_placeIs, .int 0, .ref q_frameMethod, .ref q_frameAt, .ref q_frameCode, .ref q_frameDepth, .ref q_register, .int 0, .int 0, .int 0, .int 0, .int 0, .int 0, .int 0, .ref q_trap, .ref q_first])), (q_sizes, .inl (cI, 4, .inl g2))]) [3, 4] rfl
  refine vp_callSi (va_Run.run (va_runV (As := [.int (xs (1 : Int32).toNatClampNeg)]) (rest := [.int z_317]) ⟨hx, hb, hml, hown, hts⟩ (zc_X12_size l D cI cZ cP cF m0 q_args q_locals q_many q_op q_operand q_isLooked q_depths q_deepest q_waits q_gone q_fields q_sizes q_rows q_hasCode q_counted q_madeCodes q_guardsFailed q_codeCalls q_value q_isLike q_doesVary q_partMany q_starts q_partOp q_partD q_partA q_partB q_partOf q_assumed q_localKnown q_localIs q_placeKnown q_placeIs q_frameMethod q_frameAt q_frameCode q_frameDepth q_register q_trap q_first g2 (xs (1 : Int32).toNatClampNeg) hM2) (cwV 1 hts zg_law_zc_X12_size rfl rfl rfl (by decide +kernel) ⟨Nat.le_of_ble_eq_true rfl, Nat.le_of_ble_eq_true rfl⟩) ⟨zBR, va_recv hK hPc (ci := 12) (q0 := 0) rfl rfl, fun U hU hW => ⟨rfl, by rw [hU]; exact hPc, hE.warm hW⟩⟩ rfl rfl hl.1 rfl (lv_room (Nat.le_of_ble_eq_true rfl)) dL_law_326 ⟨Nat.le_of_ble_eq_true rfl, Nat.le_of_ble_eq_true rfl⟩)) (fun r_326_4 h_326_4 => ?_)
  obtain ⟨z_326, k_326⟩ : ∃ z, z = r_326_4 := ⟨_, rfl⟩
  rw [← k_326] at h_326_4 ⊢
  have hz_326 := h_326_4
  refine lv_icmp_eq (tgt := 635) hx hb dL_law_329 (by decide) (fun c_329 => ?_) (fun c_329 => absurd (hz_317.trans hz_326.symm) c_329)
  exact zl_tail l C0 hA hbA hfin (Nat.le_of_ble_eq_true rfl) (Nat.le_of_ble_eq_true rfl) hS (lv_sub hl [0, 3] rfl)

set_option maxHeartbeats 4000000 in
set_option maxRecDepth 100000 in
theorem zl_8 {p : Program} {e : Env} {s : State} {m : MethodId} {below : List Frame} {meth : Method} {c : Code} (l : Launch) {bs : Nat} {xs : Nat → Int32} (C0 : lw_At p s m meth c bs 5 xs) {A : Nat → Prop} (hA : ∀ q : Nat, s.heap.size ≤ q → A q) (hbA : ¬ A bs) (hfin : ∀ q : Nat, A q → s.heap.size ≤ q) {D : va_G} {cI cZ cP cF : Nat} (hE : zE D cI cZ cP cF s) {h0 b d lo ma pr f le it dr wa sm ta fr ha tr m0 q_args q_locals q_many q_op q_operand q_isLooked q_depths q_deepest q_waits q_gone q_fields q_sizes q_rows q_hasCode q_counted q_madeCodes q_guardsFailed q_codeCalls q_value q_isLike q_doesVary q_partMany q_starts q_partOp q_partD q_partA q_partB q_partOf q_assumed q_localKnown q_localIs q_placeKnown q_placeIs q_frameMethod q_frameAt q_frameCode q_frameDepth q_register q_trap q_first : Nat} {g g2 : Nat → Int32} (hM : zM4 g) (hM2 : zM4 g2) {H : Heap} {locs : List Loc} {ls : Array Slot} (hP : va_P D vwCl [(h0, .inr (11, [.ref b, .ref d, .ref lo, .ref ma])), (d, .inr (2, [.ref f, .ref le, .ref it])), (le, .inl (cI, 4, .inl g)), (m0, .inr (12, [.int 0, .ref q_args, .ref q_locals, .ref q_many, .ref q_op, .ref q_operand, .ref q_isLooked, .ref q_depths, .ref q_deepest, .int 0, .ref q_waits, .ref q_gone, .ref q_fields, .ref q_sizes, .ref q_rows, .ref q_hasCode, .ref q_counted, .ref q_madeCodes, .ref q_guardsFailed, .ref q_codeCalls, .ref q_value, .ref q_isLike, .ref q_doesVary, .ref q_partMany, .ref q_starts, .ref q_partOp, .ref q_partD, .ref q_partA, .ref q_partB, .ref q_partOf, .ref q_assumed, .int 0, .int 0, .ref q_localKnown, .ref q_localIs, .ref q_placeKnown, .ref q_placeIs, .int 0, .ref q_frameMethod, .ref q_frameAt, .ref q_frameCode, .ref q_frameDepth, .ref q_register, .int 0, .int 0, .int 0, .int 0, .int 0, .int 0, .int 0, .ref q_trap, .ref q_first])), (q_sizes, .inl (cI, 4, .inl g2))] H) (hD : va_D A [(h0, .inr (11, [.ref b, .ref d, .ref lo, .ref ma])), (d, .inr (2, [.ref f, .ref le, .ref it])), (le, .inl (cI, 4, .inl g)), (m0, .inr (12, [.int 0, .ref q_args, .ref q_locals, .ref q_many, .ref q_op, .ref q_operand, .ref q_isLooked, .ref q_depths, .ref q_deepest, .int 0, .ref q_waits, .ref q_gone, .ref q_fields, .ref q_sizes, .ref q_rows, .ref q_hasCode, .ref q_counted, .ref q_madeCodes, .ref q_guardsFailed, .ref q_codeCalls, .ref q_value, .ref q_isLike, .ref q_doesVary, .ref q_partMany, .ref q_starts, .ref q_partOp, .ref q_partD, .ref q_partA, .ref q_partB, .ref q_partOf, .ref q_assumed, .int 0, .int 0, .ref q_localKnown, .ref q_localIs, .ref q_placeKnown, .ref q_placeIs, .int 0, .ref q_frameMethod, .ref q_frameAt, .ref q_frameCode, .ref q_frameDepth, .ref q_register, .int 0, .int 0, .int 0, .int 0, .int 0, .int 0, .int 0, .ref q_trap, .ref q_first])), (q_sizes, .inl (cI, 4, .inl g2))]) (hS : va_S A s.heap H locs) (hl : lv_has ls 4 [(3, .int 0), (2, .ref m0), (1, .ref h0), (0, .ref bs)]) : W p l e room_1 s m #[Value.ref bs] below meth c H locs 95 323715 (lw_Z below #[Value.ref bs] s) (F0 m 334 ls []) := by
  obtain ⟨hx, hb, hr, hml, hown, hts0, hX, hbl, hlocks, hgv⟩ := id C0
  have hts : ∀ w ∈ zw_law, w.before #[Value.ref bs] s = true := fun w h => hts0 w (zw_law_in w h)
  have hown : s.vm.findClass RL = some m.cls := hown
  have hK := hE.k
  refine lv_aload_n hx hb dL_law_334 rfl (lv_at hl 2 rfl) ?_
  refine lv_aload_n hx hb dL_law_335 rfl (lv_at hl 3 rfl) ?_
  refine lv_iload_n hx hb dL_law_336 rfl (lv_at hl 0 rfl) ?_
  refine lv_iconst (v := 1) hx hb dL_law_337 (by decide) ?_
  refine lv_iadd hx hb dL_law_338 ?_
  refine lv_topi (fun y_1 e_1 => ?_)
  obtain rfl : y_1 = 1 := by rw [e_1]; decide
  have hin_339 : vp_in 1 5 := by unfold vp_in; decide
  refine va_sld hx hb hX hbl hbA hS hin_339 dL_law_339 ?_
  refine lv_aload_n hx hb dL_law_340 rfl (lv_at hl 3 rfl) ?_
  refine lv_iload_n hx hb dL_law_341 rfl (lv_at hl 0 rfl) ?_
  refine lv_iconst (v := 2) hx hb dL_law_342 (by decide) ?_
  refine lv_iadd hx hb dL_law_343 ?_
  refine lv_topi (fun y_2 e_2 => ?_)
  obtain rfl : y_2 = 2 := by rw [e_2]; decide
  have hin_344 : vp_in 2 5 := by unfold vp_in; decide
  refine va_sld hx hb hX hbl hbA hS hin_344 dL_law_344 ?_
  have hPc := hP.sub (ws' := [(h0, .inr (11, [.ref b, .ref d, .ref lo, .ref ma])), (d, .inr (2, [.ref f, .ref le, .ref it])), (le, .inl (cI, 4, .inl g))]) [0, 1, 2] rfl
  refine vp_callSi (va_Run.run (va_runV (As := [.int (xs (1 : Int32).toNatClampNeg), .int (xs (2 : Int32).toNatClampNeg)]) (rest := []) ⟨hx, hb, hml, hown, hts⟩ (zc_X11_item l D cI cZ cP cF h0 b d lo ma f le it g (xs (1 : Int32).toNatClampNeg) (xs (2 : Int32).toNatClampNeg) hM) (cwV 2 hts zg_law_zc_X11_item rfl rfl rfl (by decide +kernel) ⟨Nat.le_of_ble_eq_true rfl, Nat.le_of_ble_eq_true rfl⟩) ⟨zBR, va_recv hK hPc (ci := 11) (q0 := 0) rfl rfl, fun U hU hW => ⟨rfl, by rw [hU]; exact hPc, hE.warm hW⟩⟩ rfl rfl hl.1 rfl (lv_room (Nat.le_of_ble_eq_true rfl)) dL_law_345 ⟨Nat.le_of_ble_eq_true rfl, Nat.le_of_ble_eq_true rfl⟩)) (fun r_345_3 h_345_3 => ?_)
  obtain rfl : r_345_3 = 0 := h_345_3
  refine lv_aload_n hx hb dL_law_348 rfl (lv_at hl 1 rfl) ?_
  refine lv_aload_n hx hb dL_law_349 rfl (lv_at hl 3 rfl) ?_
  refine lv_iload_n hx hb dL_law_350 rfl (lv_at hl 0 rfl) ?_
  refine lv_iconst (v := 1) hx hb dL_law_351 (by decide) ?_
  refine lv_iadd hx hb dL_law_352 ?_
  refine lv_topi (fun y_4 e_4 => ?_)
  obtain rfl : y_4 = 1 := by rw [e_4]; decide
  have hin_353 : vp_in 1 5 := by unfold vp_in; decide
  refine va_sld hx hb hX hbl hbA hS hin_353 dL_law_353 ?_
  refine lv_aload_n hx hb dL_law_354 rfl (lv_at hl 3 rfl) ?_
  refine lv_iload_n hx hb dL_law_355 rfl (lv_at hl 0 rfl) ?_
  refine lv_iconst (v := 2) hx hb dL_law_356 (by decide) ?_
  refine lv_iadd hx hb dL_law_357 ?_
  refine lv_topi (fun y_5 e_5 => ?_)
  obtain rfl : y_5 = 2 := by rw [e_5]; decide
  have hin_358 : vp_in 2 5 := by unfold vp_in; decide
  refine va_sld hx hb hX hbl hbA hS hin_358 dL_law_358 ?_
  have hPc := hP.sub (ws' := [(m0, .inr (12, [.int 0, .ref q_args, .ref q_locals, .ref q_many, .ref q_op, .ref q_operand, .ref q_isLooked, .ref q_depths, .ref q_deepest, .int 0, .ref q_waits, .ref q_gone, .ref q_fields, .ref q_sizes, .ref q_rows, .ref q_hasCode, .ref q_counted, .ref q_madeCodes, .ref q_guardsFailed, .ref q_codeCalls, .ref q_value, .ref q_isLike, .ref q_doesVary, .ref q_partMany, .ref q_starts, .ref q_partOp, .ref q_partD, .ref q_partA, .ref q_partB, .ref q_partOf, .ref q_assumed, .int 0, .int 0, .ref q_localKnown, .ref q_localIs, .ref q_placeKnown, .ref q_placeIs, .int 0, .ref q_frameMethod, .ref q_frameAt, .ref q_frameCode, .ref q_frameDepth, .ref q_register, .int 0, .int 0, .int 0, .int 0, .int 0, .int 0, .int 0, .ref q_trap, .ref q_first])), (q_sizes, .inl (cI, 4, .inl g2))]) [3, 4] rfl
  refine vp_callSi (va_Run.run (va_runV (As := [.int (xs (1 : Int32).toNatClampNeg), .int (xs (2 : Int32).toNatClampNeg)]) (rest := [.int 0]) ⟨hx, hb, hml, hown, hts⟩ (zc_X12_item l D cI cZ cP cF m0 q_args q_locals q_many q_op q_operand q_isLooked q_depths q_deepest q_waits q_gone q_fields q_sizes q_rows q_hasCode q_counted q_madeCodes q_guardsFailed q_codeCalls q_value q_isLike q_doesVary q_partMany q_starts q_partOp q_partD q_partA q_partB q_partOf q_assumed q_localKnown q_localIs q_placeKnown q_placeIs q_frameMethod q_frameAt q_frameCode q_frameDepth q_register q_trap q_first g2 (xs (1 : Int32).toNatClampNeg) (xs (2 : Int32).toNatClampNeg) hM2) (cwV 2 hts zg_law_zc_X12_item rfl rfl rfl (by decide +kernel) ⟨Nat.le_of_ble_eq_true rfl, Nat.le_of_ble_eq_true rfl⟩) ⟨zBR, va_recv hK hPc (ci := 12) (q0 := 0) rfl rfl, fun U hU hW => ⟨rfl, by rw [hU]; exact hPc, hE.warm hW⟩⟩ rfl rfl hl.1 rfl (lv_room (Nat.le_of_ble_eq_true rfl)) dL_law_359 ⟨Nat.le_of_ble_eq_true rfl, Nat.le_of_ble_eq_true rfl⟩)) (fun r_359_6 h_359_6 => ?_)
  obtain rfl : r_359_6 = 0 := h_359_6
  refine lv_icmp_eq (tgt := 635) hx hb dL_law_362 (by decide) (fun _ => ?_) (fun c => absurd (by decide) c)
  exact zl_tail l C0 hA hbA hfin (Nat.le_of_ble_eq_true rfl) (Nat.le_of_ble_eq_true rfl) hS (lv_sub hl [0, 3] rfl)

set_option maxHeartbeats 4000000 in
set_option maxRecDepth 100000 in
theorem zl_9 {p : Program} {e : Env} {s : State} {m : MethodId} {below : List Frame} {meth : Method} {c : Code} (l : Launch) {bs : Nat} {xs : Nat → Int32} (C0 : lw_At p s m meth c bs 5 xs) {A : Nat → Prop} (hA : ∀ q : Nat, s.heap.size ≤ q → A q) (hbA : ¬ A bs) (hfin : ∀ q : Nat, A q → s.heap.size ≤ q) {D : va_G} {cI cZ cP cF : Nat} (hE : zE D cI cZ cP cF s) {h0 b d lo ma pr f le it dr wa sm ta fr ha tr m0 q_args q_locals q_many q_op q_operand q_isLooked q_depths q_deepest q_waits q_gone q_fields q_sizes q_rows q_hasCode q_counted q_madeCodes q_guardsFailed q_codeCalls q_value q_isLike q_doesVary q_partMany q_starts q_partOp q_partD q_partA q_partB q_partOf q_assumed q_localKnown q_localIs q_placeKnown q_placeIs q_frameMethod q_frameAt q_frameCode q_frameDepth q_register q_trap q_first : Nat} {g g2 : Nat → Int32} (hM : zM4 g) (hM2 : zM4 g2) {H : Heap} {locs : List Loc} {ls : Array Slot} (hP : va_P D vwCl [(h0, .inr (11, [.ref b, .ref d, .ref lo, .ref ma])), (b, .inr (0, [.ref pr, .int 0])), (m0, .inr (12, [.int 0, .ref q_args, .ref q_locals, .ref q_many, .ref q_op, .ref q_operand, .ref q_isLooked, .ref q_depths, .ref q_deepest, .int 0, .ref q_waits, .ref q_gone, .ref q_fields, .ref q_sizes, .ref q_rows, .ref q_hasCode, .ref q_counted, .ref q_madeCodes, .ref q_guardsFailed, .ref q_codeCalls, .ref q_value, .ref q_isLike, .ref q_doesVary, .ref q_partMany, .ref q_starts, .ref q_partOp, .ref q_partD, .ref q_partA, .ref q_partB, .ref q_partOf, .ref q_assumed, .int 0, .int 0, .ref q_localKnown, .ref q_localIs, .ref q_placeKnown, .ref q_placeIs, .int 0, .ref q_frameMethod, .ref q_frameAt, .ref q_frameCode, .ref q_frameDepth, .ref q_register, .int 0, .int 0, .int 0, .int 0, .int 0, .int 0, .int 0, .ref q_trap, .ref q_first]))] H) (hD : va_D A [(h0, .inr (11, [.ref b, .ref d, .ref lo, .ref ma])), (b, .inr (0, [.ref pr, .int 0])), (m0, .inr (12, [.int 0, .ref q_args, .ref q_locals, .ref q_many, .ref q_op, .ref q_operand, .ref q_isLooked, .ref q_depths, .ref q_deepest, .int 0, .ref q_waits, .ref q_gone, .ref q_fields, .ref q_sizes, .ref q_rows, .ref q_hasCode, .ref q_counted, .ref q_madeCodes, .ref q_guardsFailed, .ref q_codeCalls, .ref q_value, .ref q_isLike, .ref q_doesVary, .ref q_partMany, .ref q_starts, .ref q_partOp, .ref q_partD, .ref q_partA, .ref q_partB, .ref q_partOf, .ref q_assumed, .int 0, .int 0, .ref q_localKnown, .ref q_localIs, .ref q_placeKnown, .ref q_placeIs, .int 0, .ref q_frameMethod, .ref q_frameAt, .ref q_frameCode, .ref q_frameDepth, .ref q_register, .int 0, .int 0, .int 0, .int 0, .int 0, .int 0, .int 0, .ref q_trap, .ref q_first]))]) (hS : va_S A s.heap H locs) (hl : lv_has ls 4 [(3, .int 0), (2, .ref m0), (1, .ref h0), (0, .ref bs)]) : W p l e room_1 s m #[Value.ref bs] below meth c H locs 95 323715 (lw_Z below #[Value.ref bs] s) (F0 m 367 ls []) := by
  obtain ⟨hx, hb, hr, hml, hown, hts0, hX, hbl, hlocks, hgv⟩ := id C0
  have hts : ∀ w ∈ zw_law, w.before #[Value.ref bs] s = true := fun w h => hts0 w (zw_law_in w h)
  have hown : s.vm.findClass RL = some m.cls := hown
  have hK := hE.k
  refine lv_aload_n hx hb dL_law_367 rfl (lv_at hl 2 rfl) ?_
  refine lv_aload_n hx hb dL_law_368 rfl (lv_at hl 3 rfl) ?_
  refine lv_iload_n hx hb dL_law_369 rfl (lv_at hl 0 rfl) ?_
  refine lv_iconst (v := 1) hx hb dL_law_370 (by decide) ?_
  refine lv_iadd hx hb dL_law_371 ?_
  refine lv_topi (fun y_1 e_1 => ?_)
  obtain rfl : y_1 = 1 := by rw [e_1]; decide
  have hin_372 : vp_in 1 5 := by unfold vp_in; decide
  refine va_sld hx hb hX hbl hbA hS hin_372 dL_law_372 ?_
  refine lv_aload_n hx hb dL_law_373 rfl (lv_at hl 3 rfl) ?_
  refine lv_iload_n hx hb dL_law_374 rfl (lv_at hl 0 rfl) ?_
  refine lv_iconst (v := 2) hx hb dL_law_375 (by decide) ?_
  refine lv_iadd hx hb dL_law_376 ?_
  refine lv_topi (fun y_2 e_2 => ?_)
  obtain rfl : y_2 = 2 := by rw [e_2]; decide
  have hin_377 : vp_in 2 5 := by unfold vp_in; decide
  refine va_sld hx hb hX hbl hbA hS hin_377 dL_law_377 ?_
  refine lv_aload_n hx hb dL_law_378 rfl (lv_at hl 3 rfl) ?_
  refine lv_iload_n hx hb dL_law_379 rfl (lv_at hl 0 rfl) ?_
  refine lv_iconst (v := 3) hx hb dL_law_380 (by decide) ?_
  refine lv_iadd hx hb dL_law_381 ?_
  refine lv_topi (fun y_3 e_3 => ?_)
  obtain rfl : y_3 = 3 := by rw [e_3]; decide
  have hin_382 : vp_in 3 5 := by unfold vp_in; decide
  refine va_sld hx hb hX hbl hbA hS hin_382 dL_law_382 ?_
  refine lv_aload_n hx hb dL_law_383 rfl (lv_at hl 3 rfl) ?_
  refine lv_iload_n hx hb dL_law_384 rfl (lv_at hl 0 rfl) ?_
  refine lv_iconst (v := 4) hx hb dL_law_385 (by decide) ?_
  refine lv_iadd hx hb dL_law_386 ?_
  refine lv_topi (fun y_4 e_4 => ?_)
  obtain rfl : y_4 = 4 := by rw [e_4]; decide
  have hin_387 : vp_in 4 5 := by unfold vp_in; decide
  refine va_sld hx hb hX hbl hbA hS hin_387 dL_law_387 ?_
  have hPc := hP.sub (ws' := [(h0, .inr (11, [.ref b, .ref d, .ref lo, .ref ma])), (b, .inr (0, [.ref pr, .int 0]))]) [0, 1] rfl
  refine vp_callSi (va_Run.run (va_runV (As := [.int (xs (1 : Int32).toNatClampNeg), .int (xs (2 : Int32).toNatClampNeg), .int (xs (3 : Int32).toNatClampNeg), .int (xs (4 : Int32).toNatClampNeg)]) (rest := []) ⟨hx, hb, hml, hown, hts⟩ (zc_X11_run l D cI cZ cP cF h0 b d lo ma pr (xs (1 : Int32).toNatClampNeg) (xs (2 : Int32).toNatClampNeg) (xs (3 : Int32).toNatClampNeg) (xs (4 : Int32).toNatClampNeg)) (cwV 4 hts zg_law_zc_X11_run rfl rfl rfl (by decide +kernel) ⟨Nat.le_of_ble_eq_true rfl, Nat.le_of_ble_eq_true rfl⟩) ⟨zBR, va_recv hK hPc (ci := 11) (q0 := 0) rfl rfl, fun U hU hW => ⟨rfl, by rw [hU]; exact hPc, hE.warm hW⟩⟩ rfl rfl hl.1 rfl (lv_room (Nat.le_of_ble_eq_true rfl)) dL_law_388 ⟨Nat.le_of_ble_eq_true rfl, Nat.le_of_ble_eq_true rfl⟩)) (fun r_388_5 h_388_5 => ?_)
  obtain rfl : r_388_5 = (-2) := h_388_5
  refine lv_aload_n hx hb dL_law_391 rfl (lv_at hl 1 rfl) ?_
  refine lv_aload_n hx hb dL_law_392 rfl (lv_at hl 3 rfl) ?_
  refine lv_iload_n hx hb dL_law_393 rfl (lv_at hl 0 rfl) ?_
  refine lv_iconst (v := 1) hx hb dL_law_394 (by decide) ?_
  refine lv_iadd hx hb dL_law_395 ?_
  refine lv_topi (fun y_6 e_6 => ?_)
  obtain rfl : y_6 = 1 := by rw [e_6]; decide
  have hin_396 : vp_in 1 5 := by unfold vp_in; decide
  refine va_sld hx hb hX hbl hbA hS hin_396 dL_law_396 ?_
  refine lv_aload_n hx hb dL_law_397 rfl (lv_at hl 3 rfl) ?_
  refine lv_iload_n hx hb dL_law_398 rfl (lv_at hl 0 rfl) ?_
  refine lv_iconst (v := 2) hx hb dL_law_399 (by decide) ?_
  refine lv_iadd hx hb dL_law_400 ?_
  refine lv_topi (fun y_7 e_7 => ?_)
  obtain rfl : y_7 = 2 := by rw [e_7]; decide
  have hin_401 : vp_in 2 5 := by unfold vp_in; decide
  refine va_sld hx hb hX hbl hbA hS hin_401 dL_law_401 ?_
  refine lv_aload_n hx hb dL_law_402 rfl (lv_at hl 3 rfl) ?_
  refine lv_iload_n hx hb dL_law_403 rfl (lv_at hl 0 rfl) ?_
  refine lv_iconst (v := 3) hx hb dL_law_404 (by decide) ?_
  refine lv_iadd hx hb dL_law_405 ?_
  refine lv_topi (fun y_8 e_8 => ?_)
  obtain rfl : y_8 = 3 := by rw [e_8]; decide
  have hin_406 : vp_in 3 5 := by unfold vp_in; decide
  refine va_sld hx hb hX hbl hbA hS hin_406 dL_law_406 ?_
  refine lv_aload_n hx hb dL_law_407 rfl (lv_at hl 3 rfl) ?_
  refine lv_iload_n hx hb dL_law_408 rfl (lv_at hl 0 rfl) ?_
  refine lv_iconst (v := 4) hx hb dL_law_409 (by decide) ?_
  refine lv_iadd hx hb dL_law_410 ?_
  refine lv_topi (fun y_9 e_9 => ?_)
  obtain rfl : y_9 = 4 := by rw [e_9]; decide
  have hin_411 : vp_in 4 5 := by unfold vp_in; decide
  refine va_sld hx hb hX hbl hbA hS hin_411 dL_law_411 ?_
  have hPc := hP.sub (ws' := [(m0, .inr (12, [.int 0, .ref q_args, .ref q_locals, .ref q_many, .ref q_op, .ref q_operand, .ref q_isLooked, .ref q_depths, .ref q_deepest, .int 0, .ref q_waits, .ref q_gone, .ref q_fields, .ref q_sizes, .ref q_rows, .ref q_hasCode, .ref q_counted, .ref q_madeCodes, .ref q_guardsFailed, .ref q_codeCalls, .ref q_value, .ref q_isLike, .ref q_doesVary, .ref q_partMany, .ref q_starts, .ref q_partOp, .ref q_partD, .ref q_partA, .ref q_partB, .ref q_partOf, .ref q_assumed, .int 0, .int 0, .ref q_localKnown, .ref q_localIs, .ref q_placeKnown, .ref q_placeIs, .int 0, .ref q_frameMethod, .ref q_frameAt, .ref q_frameCode, .ref q_frameDepth, .ref q_register, .int 0, .int 0, .int 0, .int 0, .int 0, .int 0, .int 0, .ref q_trap, .ref q_first]))]) [2] rfl
  refine vp_callSi (va_Run.run (va_runV (As := [.int (xs (1 : Int32).toNatClampNeg), .int (xs (2 : Int32).toNatClampNeg), .int (xs (3 : Int32).toNatClampNeg), .int (xs (4 : Int32).toNatClampNeg)]) (rest := [.int (-2)]) ⟨hx, hb, hml, hown, hts⟩ (zc_X12_run l D cI cZ cP cF m0 q_args q_locals q_many q_op q_operand q_isLooked q_depths q_deepest q_waits q_gone q_fields q_sizes q_rows q_hasCode q_counted q_madeCodes q_guardsFailed q_codeCalls q_value q_isLike q_doesVary q_partMany q_starts q_partOp q_partD q_partA q_partB q_partOf q_assumed q_localKnown q_localIs q_placeKnown q_placeIs q_frameMethod q_frameAt q_frameCode q_frameDepth q_register q_trap q_first (xs (1 : Int32).toNatClampNeg) (xs (2 : Int32).toNatClampNeg) (xs (3 : Int32).toNatClampNeg) (xs (4 : Int32).toNatClampNeg)) (cwV 4 hts zg_law_zc_X12_run rfl rfl rfl (by decide +kernel) ⟨Nat.le_of_ble_eq_true rfl, Nat.le_of_ble_eq_true rfl⟩) ⟨zBR, va_recv hK hPc (ci := 12) (q0 := 0) rfl rfl, fun U hU hW => ⟨rfl, by rw [hU]; exact hPc, hE.warm hW⟩⟩ rfl rfl hl.1 rfl (lv_room (Nat.le_of_ble_eq_true rfl)) dL_law_412 ⟨Nat.le_of_ble_eq_true rfl, Nat.le_of_ble_eq_true rfl⟩)) (fun r_412_10 h_412_10 => ?_)
  obtain rfl : r_412_10 = (-2) := h_412_10
  refine lv_icmp_eq (tgt := 635) hx hb dL_law_415 (by decide) (fun _ => ?_) (fun c => absurd (by decide) c)
  exact zl_tail l C0 hA hbA hfin (Nat.le_of_ble_eq_true rfl) (Nat.le_of_ble_eq_true rfl) hS (lv_sub hl [0, 3] rfl)

set_option maxHeartbeats 4000000 in
set_option maxRecDepth 100000 in
theorem zl_10 {p : Program} {e : Env} {s : State} {m : MethodId} {below : List Frame} {meth : Method} {c : Code} (l : Launch) {bs : Nat} {xs : Nat → Int32} (C0 : lw_At p s m meth c bs 5 xs) {A : Nat → Prop} (hA : ∀ q : Nat, s.heap.size ≤ q → A q) (hbA : ¬ A bs) (hfin : ∀ q : Nat, A q → s.heap.size ≤ q) {D : va_G} {cI cZ cP cF : Nat} (hE : zE D cI cZ cP cF s) {h0 b d lo ma pr f le it dr wa sm ta fr ha tr m0 q_args q_locals q_many q_op q_operand q_isLooked q_depths q_deepest q_waits q_gone q_fields q_sizes q_rows q_hasCode q_counted q_madeCodes q_guardsFailed q_codeCalls q_value q_isLike q_doesVary q_partMany q_starts q_partOp q_partD q_partA q_partB q_partOf q_assumed q_localKnown q_localIs q_placeKnown q_placeIs q_frameMethod q_frameAt q_frameCode q_frameDepth q_register q_trap q_first : Nat} {g g2 : Nat → Int32} (hM : zM4 g) (hM2 : zM4 g2) {H : Heap} {locs : List Loc} {ls : Array Slot} (hP : va_P D vwCl [(h0, .inr (11, [.ref b, .ref d, .ref lo, .ref ma])), (ma, .inr (7, [.ref b, .ref d, .ref sm, .ref ta, .ref fr, .ref ha, .int 0, .int 0, .int 0, .int 0])), (ta, .inr (10, [.int 0, .int 0, .int 0, .int 0, .int 0, .int 0, .ref tr])), (m0, .inr (12, [.int 0, .ref q_args, .ref q_locals, .ref q_many, .ref q_op, .ref q_operand, .ref q_isLooked, .ref q_depths, .ref q_deepest, .int 0, .ref q_waits, .ref q_gone, .ref q_fields, .ref q_sizes, .ref q_rows, .ref q_hasCode, .ref q_counted, .ref q_madeCodes, .ref q_guardsFailed, .ref q_codeCalls, .ref q_value, .ref q_isLike, .ref q_doesVary, .ref q_partMany, .ref q_starts, .ref q_partOp, .ref q_partD, .ref q_partA, .ref q_partB, .ref q_partOf, .ref q_assumed, .int 0, .int 0, .ref q_localKnown, .ref q_localIs, .ref q_placeKnown, .ref q_placeIs, .int 0, .ref q_frameMethod, .ref q_frameAt, .ref q_frameCode, .ref q_frameDepth, .ref q_register, .int 0, .int 0, .int 0, .int 0, .int 0, .int 0, .int 0, .ref q_trap, .ref q_first]))] H) (hD : va_D A [(h0, .inr (11, [.ref b, .ref d, .ref lo, .ref ma])), (ma, .inr (7, [.ref b, .ref d, .ref sm, .ref ta, .ref fr, .ref ha, .int 0, .int 0, .int 0, .int 0])), (ta, .inr (10, [.int 0, .int 0, .int 0, .int 0, .int 0, .int 0, .ref tr])), (m0, .inr (12, [.int 0, .ref q_args, .ref q_locals, .ref q_many, .ref q_op, .ref q_operand, .ref q_isLooked, .ref q_depths, .ref q_deepest, .int 0, .ref q_waits, .ref q_gone, .ref q_fields, .ref q_sizes, .ref q_rows, .ref q_hasCode, .ref q_counted, .ref q_madeCodes, .ref q_guardsFailed, .ref q_codeCalls, .ref q_value, .ref q_isLike, .ref q_doesVary, .ref q_partMany, .ref q_starts, .ref q_partOp, .ref q_partD, .ref q_partA, .ref q_partB, .ref q_partOf, .ref q_assumed, .int 0, .int 0, .ref q_localKnown, .ref q_localIs, .ref q_placeKnown, .ref q_placeIs, .int 0, .ref q_frameMethod, .ref q_frameAt, .ref q_frameCode, .ref q_frameDepth, .ref q_register, .int 0, .int 0, .int 0, .int 0, .int 0, .int 0, .int 0, .ref q_trap, .ref q_first]))]) (hS : va_S A s.heap H locs) (hl : lv_has ls 4 [(3, .int 0), (2, .ref m0), (1, .ref h0), (0, .ref bs)]) : W p l e room_1 s m #[Value.ref bs] below meth c H locs 95 323715 (lw_Z below #[Value.ref bs] s) (F0 m 420 ls []) := by
  obtain ⟨hx, hb, hr, hml, hown, hts0, hX, hbl, hlocks, hgv⟩ := id C0
  have hts : ∀ w ∈ zw_law, w.before #[Value.ref bs] s = true := fun w h => hts0 w (zw_law_in w h)
  have hown : s.vm.findClass RL = some m.cls := hown
  have hK := hE.k
  refine lv_aload_n hx hb dL_law_420 rfl (lv_at hl 2 rfl) ?_
  have hPc := hP.sub (ws' := [(h0, .inr (11, [.ref b, .ref d, .ref lo, .ref ma])), (ma, .inr (7, [.ref b, .ref d, .ref sm, .ref ta, .ref fr, .ref ha, .int 0, .int 0, .int 0, .int 0])), (ta, .inr (10, [.int 0, .int 0, .int 0, .int 0, .int 0, .int 0, .ref tr]))]) [0, 1, 2] rfl
  refine vp_callSi (va_Run.run (va_runV (As := []) (rest := []) ⟨hx, hb, hml, hown, hts⟩ (zc_X11_answer l D cI cZ cP cF h0 b d lo ma sm ta fr ha tr) (cwV 0 hts zg_law_zc_X11_answer rfl rfl rfl (by decide +kernel) ⟨Nat.le_of_ble_eq_true rfl, Nat.le_of_ble_eq_true rfl⟩) ⟨zBR, va_recv hK hPc (ci := 11) (q0 := 0) rfl rfl, fun U hU hW => ⟨rfl, by rw [hU]; exact hPc, hE.warm hW⟩⟩ rfl rfl hl.1 rfl (lv_room (Nat.le_of_ble_eq_true rfl)) dL_law_421 ⟨Nat.le_of_ble_eq_true rfl, Nat.le_of_ble_eq_true rfl⟩)) (fun r_421_1 h_421_1 => ?_)
  obtain rfl : r_421_1 = 0 := h_421_1
  refine lv_aload_n hx hb dL_law_424 rfl (lv_at hl 1 rfl) ?_
  have hPc := hP.sub (ws' := [(m0, .inr (12, [.int 0, .ref q_args, .ref q_locals, .ref q_many, .ref q_op, .ref q_operand, .ref q_isLooked, .ref q_depths, .ref q_deepest, .int 0, .ref q_waits, .ref q_gone, .ref q_fields, .ref q_sizes, .ref q_rows, .ref q_hasCode, .ref q_counted, .ref q_madeCodes, .ref q_guardsFailed, .ref q_codeCalls, .ref q_value, .ref q_isLike, .ref q_doesVary, .ref q_partMany, .ref q_starts, .ref q_partOp, .ref q_partD, .ref q_partA, .ref q_partB, .ref q_partOf, .ref q_assumed, .int 0, .int 0, .ref q_localKnown, .ref q_localIs, .ref q_placeKnown, .ref q_placeIs, .int 0, .ref q_frameMethod, .ref q_frameAt, .ref q_frameCode, .ref q_frameDepth, .ref q_register, .int 0, .int 0, .int 0, .int 0, .int 0, .int 0, .int 0, .ref q_trap, .ref q_first]))]) [3] rfl
  refine vp_callSi (va_Run.run (va_runV (As := []) (rest := [.int 0]) ⟨hx, hb, hml, hown, hts⟩ (zc_X12_answer l D cI cZ cP cF m0 q_args q_locals q_many q_op q_operand q_isLooked q_depths q_deepest q_waits q_gone q_fields q_sizes q_rows q_hasCode q_counted q_madeCodes q_guardsFailed q_codeCalls q_value q_isLike q_doesVary q_partMany q_starts q_partOp q_partD q_partA q_partB q_partOf q_assumed q_localKnown q_localIs q_placeKnown q_placeIs q_frameMethod q_frameAt q_frameCode q_frameDepth q_register q_trap q_first) (cwV 0 hts zg_law_zc_X12_answer rfl rfl rfl (by decide +kernel) ⟨Nat.le_of_ble_eq_true rfl, Nat.le_of_ble_eq_true rfl⟩) ⟨zBR, va_recv hK hPc (ci := 12) (q0 := 0) rfl rfl, fun U hU hW => ⟨rfl, by rw [hU]; exact hPc, hE.warm hW⟩⟩ rfl rfl hl.1 rfl (lv_room (Nat.le_of_ble_eq_true rfl)) dL_law_425 ⟨Nat.le_of_ble_eq_true rfl, Nat.le_of_ble_eq_true rfl⟩)) (fun r_425_2 h_425_2 => ?_)
  obtain rfl : r_425_2 = 0 := h_425_2
  refine lv_icmp_eq (tgt := 635) hx hb dL_law_428 (by decide) (fun _ => ?_) (fun c => absurd (by decide) c)
  exact zl_tail l C0 hA hbA hfin (Nat.le_of_ble_eq_true rfl) (Nat.le_of_ble_eq_true rfl) hS (lv_sub hl [0, 3] rfl)

set_option maxHeartbeats 4000000 in
set_option maxRecDepth 100000 in
theorem zl_11 {p : Program} {e : Env} {s : State} {m : MethodId} {below : List Frame} {meth : Method} {c : Code} (l : Launch) {bs : Nat} {xs : Nat → Int32} (C0 : lw_At p s m meth c bs 5 xs) {A : Nat → Prop} (hA : ∀ q : Nat, s.heap.size ≤ q → A q) (hbA : ¬ A bs) (hfin : ∀ q : Nat, A q → s.heap.size ≤ q) {D : va_G} {cI cZ cP cF : Nat} (hE : zE D cI cZ cP cF s) {h0 b d lo ma pr f le it dr wa sm ta fr ha tr m0 q_args q_locals q_many q_op q_operand q_isLooked q_depths q_deepest q_waits q_gone q_fields q_sizes q_rows q_hasCode q_counted q_madeCodes q_guardsFailed q_codeCalls q_value q_isLike q_doesVary q_partMany q_starts q_partOp q_partD q_partA q_partB q_partOf q_assumed q_localKnown q_localIs q_placeKnown q_placeIs q_frameMethod q_frameAt q_frameCode q_frameDepth q_register q_trap q_first : Nat} {g g2 : Nat → Int32} (hM : zM4 g) (hM2 : zM4 g2) {H : Heap} {locs : List Loc} {ls : Array Slot} (hP : va_P D vwCl [(h0, .inr (11, [.ref b, .ref d, .ref lo, .ref ma])), (ma, .inr (7, [.ref b, .ref d, .ref sm, .ref ta, .ref fr, .ref ha, .int 0, .int 0, .int 0, .int 0])), (ta, .inr (10, [.int 0, .int 0, .int 0, .int 0, .int 0, .int 0, .ref tr])), (tr, .inl (cI, 4, .inl (fun _ => 0))), (m0, .inr (12, [.int 0, .ref q_args, .ref q_locals, .ref q_many, .ref q_op, .ref q_operand, .ref q_isLooked, .ref q_depths, .ref q_deepest, .int 0, .ref q_waits, .ref q_gone, .ref q_fields, .ref q_sizes, .ref q_rows, .ref q_hasCode, .ref q_counted, .ref q_madeCodes, .ref q_guardsFailed, .ref q_codeCalls, .ref q_value, .ref q_isLike, .ref q_doesVary, .ref q_partMany, .ref q_starts, .ref q_partOp, .ref q_partD, .ref q_partA, .ref q_partB, .ref q_partOf, .ref q_assumed, .int 0, .int 0, .ref q_localKnown, .ref q_localIs, .ref q_placeKnown, .ref q_placeIs, .int 0, .ref q_frameMethod, .ref q_frameAt, .ref q_frameCode, .ref q_frameDepth, .ref q_register, .int 0, .int 0, .int 0, .int 0, .int 0, .int 0, .int 0, .ref q_trap, .ref q_first])), (q_trap, .inl (cI, 4, .inl (fun _ => 0)))] H) (hD : va_D A [(h0, .inr (11, [.ref b, .ref d, .ref lo, .ref ma])), (ma, .inr (7, [.ref b, .ref d, .ref sm, .ref ta, .ref fr, .ref ha, .int 0, .int 0, .int 0, .int 0])), (ta, .inr (10, [.int 0, .int 0, .int 0, .int 0, .int 0, .int 0, .ref tr])), (tr, .inl (cI, 4, .inl (fun _ => 0))), (m0, .inr (12, [.int 0, .ref q_args, .ref q_locals, .ref q_many, .ref q_op, .ref q_operand, .ref q_isLooked, .ref q_depths, .ref q_deepest, .int 0, .ref q_waits, .ref q_gone, .ref q_fields, .ref q_sizes, .ref q_rows, .ref q_hasCode, .ref q_counted, .ref q_madeCodes, .ref q_guardsFailed, .ref q_codeCalls, .ref q_value, .ref q_isLike, .ref q_doesVary, .ref q_partMany, .ref q_starts, .ref q_partOp, .ref q_partD, .ref q_partA, .ref q_partB, .ref q_partOf, .ref q_assumed, .int 0, .int 0, .ref q_localKnown, .ref q_localIs, .ref q_placeKnown, .ref q_placeIs, .int 0, .ref q_frameMethod, .ref q_frameAt, .ref q_frameCode, .ref q_frameDepth, .ref q_register, .int 0, .int 0, .int 0, .int 0, .int 0, .int 0, .int 0, .ref q_trap, .ref q_first])), (q_trap, .inl (cI, 4, .inl (fun _ => 0)))]) (hS : va_S A s.heap H locs) (hl : lv_has ls 4 [(3, .int 0), (2, .ref m0), (1, .ref h0), (0, .ref bs)]) : W p l e room_1 s m #[Value.ref bs] below meth c H locs 95 323715 (lw_Z below #[Value.ref bs] s) (F0 m 433 ls []) := by
  obtain ⟨hx, hb, hr, hml, hown, hts0, hX, hbl, hlocks, hgv⟩ := id C0
  have hts : ∀ w ∈ zw_law, w.before #[Value.ref bs] s = true := fun w h => hts0 w (zw_law_in w h)
  have hown : s.vm.findClass RL = some m.cls := hown
  have hK := hE.k
  refine lv_aload_n hx hb dL_law_433 rfl (lv_at hl 2 rfl) ?_
  refine lv_aload_n hx hb dL_law_434 rfl (lv_at hl 3 rfl) ?_
  refine lv_iload_n hx hb dL_law_435 rfl (lv_at hl 0 rfl) ?_
  refine lv_iconst (v := 1) hx hb dL_law_436 (by decide) ?_
  refine lv_iadd hx hb dL_law_437 ?_
  refine lv_topi (fun y_1 e_1 => ?_)
  obtain rfl : y_1 = 1 := by rw [e_1]; decide
  have hin_438 : vp_in 1 5 := by unfold vp_in; decide
  refine va_sld hx hb hX hbl hbA hS hin_438 dL_law_438 ?_
  have hPc := hP.sub (ws' := [(h0, .inr (11, [.ref b, .ref d, .ref lo, .ref ma])), (ma, .inr (7, [.ref b, .ref d, .ref sm, .ref ta, .ref fr, .ref ha, .int 0, .int 0, .int 0, .int 0])), (ta, .inr (10, [.int 0, .int 0, .int 0, .int 0, .int 0, .int 0, .ref tr])), (tr, .inl (cI, 4, .inl (fun _ => 0)))]) [0, 1, 2, 3] rfl
  refine vp_callSi (va_Run.run (va_runV (As := [.int (xs (1 : Int32).toNatClampNeg)]) (rest := []) ⟨hx, hb, hml, hown, hts⟩ (zc_X11_trap l D cI cZ cP cF h0 b d lo ma sm ta fr ha tr (xs (1 : Int32).toNatClampNeg)) (cwV 1 hts zg_law_zc_X11_trap rfl rfl rfl (by decide +kernel) ⟨Nat.le_of_ble_eq_true rfl, Nat.le_of_ble_eq_true rfl⟩) ⟨zBR, va_recv hK hPc (ci := 11) (q0 := 0) rfl rfl, fun U hU hW => ⟨rfl, by rw [hU]; exact hPc, hE.warm hW⟩⟩ rfl rfl hl.1 rfl (lv_room (Nat.le_of_ble_eq_true rfl)) dL_law_439 ⟨Nat.le_of_ble_eq_true rfl, Nat.le_of_ble_eq_true rfl⟩)) (fun r_439_2 h_439_2 => ?_)
  obtain ⟨z_439, k_439⟩ : ∃ z, z = r_439_2 := ⟨_, rfl⟩
  rw [← k_439] at h_439_2 ⊢
  have hz_439 := h_439_2
  refine lv_aload_n hx hb dL_law_442 rfl (lv_at hl 1 rfl) ?_
  refine lv_aload_n hx hb dL_law_443 rfl (lv_at hl 3 rfl) ?_
  refine lv_iload_n hx hb dL_law_444 rfl (lv_at hl 0 rfl) ?_
  refine lv_iconst (v := 1) hx hb dL_law_445 (by decide) ?_
  refine lv_iadd hx hb dL_law_446 ?_
  refine lv_topi (fun y_3 e_3 => ?_)
  obtain rfl : y_3 = 1 := by rw [e_3]; decide
  have hin_447 : vp_in 1 5 := by unfold vp_in; decide
  refine va_sld hx hb hX hbl hbA hS hin_447 dL_law_447 ?_
  have hPc := hP.sub (ws' := [(m0, .inr (12, [.int 0, .ref q_args, .ref q_locals, .ref q_many, .ref q_op, .ref q_operand, .ref q_isLooked, .ref q_depths, .ref q_deepest, .int 0, .ref q_waits, .ref q_gone, .ref q_fields, .ref q_sizes, .ref q_rows, .ref q_hasCode, .ref q_counted, .ref q_madeCodes, .ref q_guardsFailed, .ref q_codeCalls, .ref q_value, .ref q_isLike, .ref q_doesVary, .ref q_partMany, .ref q_starts, .ref q_partOp, .ref q_partD, .ref q_partA, .ref q_partB, .ref q_partOf, .ref q_assumed, .int 0, .int 0, .ref q_localKnown, .ref q_localIs, .ref q_placeKnown, .ref q_placeIs, .int 0, .ref q_frameMethod, .ref q_frameAt, .ref q_frameCode, .ref q_frameDepth, .ref q_register, .int 0, .int 0, .int 0, .int 0, .int 0, .int 0, .int 0, .ref q_trap, .ref q_first])), (q_trap, .inl (cI, 4, .inl (fun _ => 0)))]) [4, 5] rfl
  refine vp_callSi (va_Run.run (va_runV (As := [.int (xs (1 : Int32).toNatClampNeg)]) (rest := [.int z_439]) ⟨hx, hb, hml, hown, hts⟩ (zc_X12_trap l D cI cZ cP cF m0 q_args q_locals q_many q_op q_operand q_isLooked q_depths q_deepest q_waits q_gone q_fields q_sizes q_rows q_hasCode q_counted q_madeCodes q_guardsFailed q_codeCalls q_value q_isLike q_doesVary q_partMany q_starts q_partOp q_partD q_partA q_partB q_partOf q_assumed q_localKnown q_localIs q_placeKnown q_placeIs q_frameMethod q_frameAt q_frameCode q_frameDepth q_register q_trap q_first (xs (1 : Int32).toNatClampNeg)) (cwV 1 hts zg_law_zc_X12_trap rfl rfl rfl (by decide +kernel) ⟨Nat.le_of_ble_eq_true rfl, Nat.le_of_ble_eq_true rfl⟩) ⟨zBR, va_recv hK hPc (ci := 12) (q0 := 0) rfl rfl, fun U hU hW => ⟨rfl, by rw [hU]; exact hPc, hE.warm hW⟩⟩ rfl rfl hl.1 rfl (lv_room (Nat.le_of_ble_eq_true rfl)) dL_law_448 ⟨Nat.le_of_ble_eq_true rfl, Nat.le_of_ble_eq_true rfl⟩)) (fun r_448_4 h_448_4 => ?_)
  obtain ⟨z_448, k_448⟩ : ∃ z, z = r_448_4 := ⟨_, rfl⟩
  rw [← k_448] at h_448_4 ⊢
  have hz_448 := h_448_4
  refine lv_icmp_eq (tgt := 635) hx hb dL_law_451 (by decide) (fun c_451 => ?_) (fun c_451 => absurd (hz_439.trans hz_448.symm) c_451)
  exact zl_tail l C0 hA hbA hfin (Nat.le_of_ble_eq_true rfl) (Nat.le_of_ble_eq_true rfl) hS (lv_sub hl [0, 3] rfl)

set_option maxHeartbeats 4000000 in
set_option maxRecDepth 100000 in
theorem zl_12 {p : Program} {e : Env} {s : State} {m : MethodId} {below : List Frame} {meth : Method} {c : Code} (l : Launch) {bs : Nat} {xs : Nat → Int32} (C0 : lw_At p s m meth c bs 5 xs) {A : Nat → Prop} (hA : ∀ q : Nat, s.heap.size ≤ q → A q) (hbA : ¬ A bs) (hfin : ∀ q : Nat, A q → s.heap.size ≤ q) {D : va_G} {cI cZ cP cF : Nat} (hE : zE D cI cZ cP cF s) {h0 b d lo ma pr f le it dr wa sm ta fr ha tr m0 q_args q_locals q_many q_op q_operand q_isLooked q_depths q_deepest q_waits q_gone q_fields q_sizes q_rows q_hasCode q_counted q_madeCodes q_guardsFailed q_codeCalls q_value q_isLike q_doesVary q_partMany q_starts q_partOp q_partD q_partA q_partB q_partOf q_assumed q_localKnown q_localIs q_placeKnown q_placeIs q_frameMethod q_frameAt q_frameCode q_frameDepth q_register q_trap q_first : Nat} {g g2 : Nat → Int32} (hM : zM4 g) (hM2 : zM4 g2) {H : Heap} {locs : List Loc} {ls : Array Slot} (hP : va_P D vwCl [(h0, .inr (11, [.ref b, .ref d, .ref lo, .ref ma])), (b, .inr (0, [.ref pr, .int 0])), (m0, .inr (12, [.int 0, .ref q_args, .ref q_locals, .ref q_many, .ref q_op, .ref q_operand, .ref q_isLooked, .ref q_depths, .ref q_deepest, .int 0, .ref q_waits, .ref q_gone, .ref q_fields, .ref q_sizes, .ref q_rows, .ref q_hasCode, .ref q_counted, .ref q_madeCodes, .ref q_guardsFailed, .ref q_codeCalls, .ref q_value, .ref q_isLike, .ref q_doesVary, .ref q_partMany, .ref q_starts, .ref q_partOp, .ref q_partD, .ref q_partA, .ref q_partB, .ref q_partOf, .ref q_assumed, .int 0, .int 0, .ref q_localKnown, .ref q_localIs, .ref q_placeKnown, .ref q_placeIs, .int 0, .ref q_frameMethod, .ref q_frameAt, .ref q_frameCode, .ref q_frameDepth, .ref q_register, .int 0, .int 0, .int 0, .int 0, .int 0, .int 0, .int 0, .ref q_trap, .ref q_first]))] H) (hD : va_D A [(h0, .inr (11, [.ref b, .ref d, .ref lo, .ref ma])), (b, .inr (0, [.ref pr, .int 0])), (m0, .inr (12, [.int 0, .ref q_args, .ref q_locals, .ref q_many, .ref q_op, .ref q_operand, .ref q_isLooked, .ref q_depths, .ref q_deepest, .int 0, .ref q_waits, .ref q_gone, .ref q_fields, .ref q_sizes, .ref q_rows, .ref q_hasCode, .ref q_counted, .ref q_madeCodes, .ref q_guardsFailed, .ref q_codeCalls, .ref q_value, .ref q_isLike, .ref q_doesVary, .ref q_partMany, .ref q_starts, .ref q_partOp, .ref q_partD, .ref q_partA, .ref q_partB, .ref q_partOf, .ref q_assumed, .int 0, .int 0, .ref q_localKnown, .ref q_localIs, .ref q_placeKnown, .ref q_placeIs, .int 0, .ref q_frameMethod, .ref q_frameAt, .ref q_frameCode, .ref q_frameDepth, .ref q_register, .int 0, .int 0, .int 0, .int 0, .int 0, .int 0, .int 0, .ref q_trap, .ref q_first]))]) (hS : va_S A s.heap H locs) (hl : lv_has ls 4 [(3, .int 0), (2, .ref m0), (1, .ref h0), (0, .ref bs)]) : W p l e room_1 s m #[Value.ref bs] below meth c H locs 95 323715 (lw_Z below #[Value.ref bs] s) (F0 m 456 ls []) := by
  obtain ⟨hx, hb, hr, hml, hown, hts0, hX, hbl, hlocks, hgv⟩ := id C0
  have hts : ∀ w ∈ zw_law, w.before #[Value.ref bs] s = true := fun w h => hts0 w (zw_law_in w h)
  have hown : s.vm.findClass RL = some m.cls := hown
  have hK := hE.k
  refine lv_aload_n hx hb dL_law_456 rfl (lv_at hl 2 rfl) ?_
  refine lv_aload_n hx hb dL_law_457 rfl (lv_at hl 3 rfl) ?_
  refine lv_iload_n hx hb dL_law_458 rfl (lv_at hl 0 rfl) ?_
  refine lv_iconst (v := 1) hx hb dL_law_459 (by decide) ?_
  refine lv_iadd hx hb dL_law_460 ?_
  refine lv_topi (fun y_1 e_1 => ?_)
  obtain rfl : y_1 = 1 := by rw [e_1]; decide
  have hin_461 : vp_in 1 5 := by unfold vp_in; decide
  refine va_sld hx hb hX hbl hbA hS hin_461 dL_law_461 ?_
  refine lv_aload_n hx hb dL_law_462 rfl (lv_at hl 3 rfl) ?_
  refine lv_iload_n hx hb dL_law_463 rfl (lv_at hl 0 rfl) ?_
  refine lv_iconst (v := 2) hx hb dL_law_464 (by decide) ?_
  refine lv_iadd hx hb dL_law_465 ?_
  refine lv_topi (fun y_2 e_2 => ?_)
  obtain rfl : y_2 = 2 := by rw [e_2]; decide
  have hin_466 : vp_in 2 5 := by unfold vp_in; decide
  refine va_sld hx hb hX hbl hbA hS hin_466 dL_law_466 ?_
  have hPc := hP.sub (ws' := [(h0, .inr (11, [.ref b, .ref d, .ref lo, .ref ma])), (b, .inr (0, [.ref pr, .int 0]))]) [0, 1] rfl
  refine vp_callSi (va_Run.run (va_runV (As := [.int (xs (1 : Int32).toNatClampNeg), .int (xs (2 : Int32).toNatClampNeg)]) (rest := []) ⟨hx, hb, hml, hown, hts⟩ (zc_X11_of l D cI cZ cP cF h0 b d lo ma pr (xs (1 : Int32).toNatClampNeg) (xs (2 : Int32).toNatClampNeg)) (cwV 2 hts zg_law_zc_X11_of rfl rfl rfl (by decide +kernel) ⟨Nat.le_of_ble_eq_true rfl, Nat.le_of_ble_eq_true rfl⟩) ⟨zBR, va_recv hK hPc (ci := 11) (q0 := 0) rfl rfl, fun U hU hW => ⟨rfl, by rw [hU]; exact hPc, hE.warm hW⟩⟩ rfl rfl hl.1 rfl (lv_room (Nat.le_of_ble_eq_true rfl)) dL_law_467 ⟨Nat.le_of_ble_eq_true rfl, Nat.le_of_ble_eq_true rfl⟩)) (fun r_467_3 h_467_3 => ?_)
  obtain rfl : r_467_3 = (-2) := h_467_3
  refine lv_aload_n hx hb dL_law_470 rfl (lv_at hl 1 rfl) ?_
  refine lv_aload_n hx hb dL_law_471 rfl (lv_at hl 3 rfl) ?_
  refine lv_iload_n hx hb dL_law_472 rfl (lv_at hl 0 rfl) ?_
  refine lv_iconst (v := 1) hx hb dL_law_473 (by decide) ?_
  refine lv_iadd hx hb dL_law_474 ?_
  refine lv_topi (fun y_4 e_4 => ?_)
  obtain rfl : y_4 = 1 := by rw [e_4]; decide
  have hin_475 : vp_in 1 5 := by unfold vp_in; decide
  refine va_sld hx hb hX hbl hbA hS hin_475 dL_law_475 ?_
  refine lv_aload_n hx hb dL_law_476 rfl (lv_at hl 3 rfl) ?_
  refine lv_iload_n hx hb dL_law_477 rfl (lv_at hl 0 rfl) ?_
  refine lv_iconst (v := 2) hx hb dL_law_478 (by decide) ?_
  refine lv_iadd hx hb dL_law_479 ?_
  refine lv_topi (fun y_5 e_5 => ?_)
  obtain rfl : y_5 = 2 := by rw [e_5]; decide
  have hin_480 : vp_in 2 5 := by unfold vp_in; decide
  refine va_sld hx hb hX hbl hbA hS hin_480 dL_law_480 ?_
  have hPc := hP.sub (ws' := [(m0, .inr (12, [.int 0, .ref q_args, .ref q_locals, .ref q_many, .ref q_op, .ref q_operand, .ref q_isLooked, .ref q_depths, .ref q_deepest, .int 0, .ref q_waits, .ref q_gone, .ref q_fields, .ref q_sizes, .ref q_rows, .ref q_hasCode, .ref q_counted, .ref q_madeCodes, .ref q_guardsFailed, .ref q_codeCalls, .ref q_value, .ref q_isLike, .ref q_doesVary, .ref q_partMany, .ref q_starts, .ref q_partOp, .ref q_partD, .ref q_partA, .ref q_partB, .ref q_partOf, .ref q_assumed, .int 0, .int 0, .ref q_localKnown, .ref q_localIs, .ref q_placeKnown, .ref q_placeIs, .int 0, .ref q_frameMethod, .ref q_frameAt, .ref q_frameCode, .ref q_frameDepth, .ref q_register, .int 0, .int 0, .int 0, .int 0, .int 0, .int 0, .int 0, .ref q_trap, .ref q_first]))]) [2] rfl
  refine vp_callSi (va_Run.run (va_runV (As := [.int (xs (1 : Int32).toNatClampNeg), .int (xs (2 : Int32).toNatClampNeg)]) (rest := [.int (-2)]) ⟨hx, hb, hml, hown, hts⟩ (zc_X12_of l D cI cZ cP cF m0 q_args q_locals q_many q_op q_operand q_isLooked q_depths q_deepest q_waits q_gone q_fields q_sizes q_rows q_hasCode q_counted q_madeCodes q_guardsFailed q_codeCalls q_value q_isLike q_doesVary q_partMany q_starts q_partOp q_partD q_partA q_partB q_partOf q_assumed q_localKnown q_localIs q_placeKnown q_placeIs q_frameMethod q_frameAt q_frameCode q_frameDepth q_register q_trap q_first (xs (1 : Int32).toNatClampNeg) (xs (2 : Int32).toNatClampNeg)) (cwV 2 hts zg_law_zc_X12_of rfl rfl rfl (by decide +kernel) ⟨Nat.le_of_ble_eq_true rfl, Nat.le_of_ble_eq_true rfl⟩) ⟨zBR, va_recv hK hPc (ci := 12) (q0 := 0) rfl rfl, fun U hU hW => ⟨rfl, by rw [hU]; exact hPc, hE.warm hW⟩⟩ rfl rfl hl.1 rfl (lv_room (Nat.le_of_ble_eq_true rfl)) dL_law_481 ⟨Nat.le_of_ble_eq_true rfl, Nat.le_of_ble_eq_true rfl⟩)) (fun r_481_6 h_481_6 => ?_)
  obtain rfl : r_481_6 = (-2) := h_481_6
  refine lv_icmp_eq (tgt := 635) hx hb dL_law_484 (by decide) (fun _ => ?_) (fun c => absurd (by decide) c)
  exact zl_tail l C0 hA hbA hfin (Nat.le_of_ble_eq_true rfl) (Nat.le_of_ble_eq_true rfl) hS (lv_sub hl [0, 3] rfl)

set_option maxHeartbeats 4000000 in
set_option maxRecDepth 100000 in
theorem zl_13 {p : Program} {e : Env} {s : State} {m : MethodId} {below : List Frame} {meth : Method} {c : Code} (l : Launch) {bs : Nat} {xs : Nat → Int32} (C0 : lw_At p s m meth c bs 5 xs) {A : Nat → Prop} (hA : ∀ q : Nat, s.heap.size ≤ q → A q) (hbA : ¬ A bs) (hfin : ∀ q : Nat, A q → s.heap.size ≤ q) {D : va_G} {cI cZ cP cF : Nat} (hE : zE D cI cZ cP cF s) {h0 b d lo ma pr f le it dr wa sm ta fr ha tr m0 q_args q_locals q_many q_op q_operand q_isLooked q_depths q_deepest q_waits q_gone q_fields q_sizes q_rows q_hasCode q_counted q_madeCodes q_guardsFailed q_codeCalls q_value q_isLike q_doesVary q_partMany q_starts q_partOp q_partD q_partA q_partB q_partOf q_assumed q_localKnown q_localIs q_placeKnown q_placeIs q_frameMethod q_frameAt q_frameCode q_frameDepth q_register q_trap q_first : Nat} {g g2 : Nat → Int32} (hM : zM4 g) (hM2 : zM4 g2) {H : Heap} {locs : List Loc} {ls : Array Slot} (hP : va_P D vwCl [(h0, .inr (11, [.ref b, .ref d, .ref lo, .ref ma])), (b, .inr (0, [.ref pr, .int 0])), (m0, .inr (12, [.int 0, .ref q_args, .ref q_locals, .ref q_many, .ref q_op, .ref q_operand, .ref q_isLooked, .ref q_depths, .ref q_deepest, .int 0, .ref q_waits, .ref q_gone, .ref q_fields, .ref q_sizes, .ref q_rows, .ref q_hasCode, .ref q_counted, .ref q_madeCodes, .ref q_guardsFailed, .ref q_codeCalls, .ref q_value, .ref q_isLike, .ref q_doesVary, .ref q_partMany, .ref q_starts, .ref q_partOp, .ref q_partD, .ref q_partA, .ref q_partB, .ref q_partOf, .ref q_assumed, .int 0, .int 0, .ref q_localKnown, .ref q_localIs, .ref q_placeKnown, .ref q_placeIs, .int 0, .ref q_frameMethod, .ref q_frameAt, .ref q_frameCode, .ref q_frameDepth, .ref q_register, .int 0, .int 0, .int 0, .int 0, .int 0, .int 0, .int 0, .ref q_trap, .ref q_first]))] H) (hD : va_D A [(h0, .inr (11, [.ref b, .ref d, .ref lo, .ref ma])), (b, .inr (0, [.ref pr, .int 0])), (m0, .inr (12, [.int 0, .ref q_args, .ref q_locals, .ref q_many, .ref q_op, .ref q_operand, .ref q_isLooked, .ref q_depths, .ref q_deepest, .int 0, .ref q_waits, .ref q_gone, .ref q_fields, .ref q_sizes, .ref q_rows, .ref q_hasCode, .ref q_counted, .ref q_madeCodes, .ref q_guardsFailed, .ref q_codeCalls, .ref q_value, .ref q_isLike, .ref q_doesVary, .ref q_partMany, .ref q_starts, .ref q_partOp, .ref q_partD, .ref q_partA, .ref q_partB, .ref q_partOf, .ref q_assumed, .int 0, .int 0, .ref q_localKnown, .ref q_localIs, .ref q_placeKnown, .ref q_placeIs, .int 0, .ref q_frameMethod, .ref q_frameAt, .ref q_frameCode, .ref q_frameDepth, .ref q_register, .int 0, .int 0, .int 0, .int 0, .int 0, .int 0, .int 0, .ref q_trap, .ref q_first]))]) (hS : va_S A s.heap H locs) (hl : lv_has ls 4 [(3, .int 0), (2, .ref m0), (1, .ref h0), (0, .ref bs)]) : W p l e room_1 s m #[Value.ref bs] below meth c H locs 95 323715 (lw_Z below #[Value.ref bs] s) (F0 m 489 ls []) := by
  obtain ⟨hx, hb, hr, hml, hown, hts0, hX, hbl, hlocks, hgv⟩ := id C0
  have hts : ∀ w ∈ zw_law, w.before #[Value.ref bs] s = true := fun w h => hts0 w (zw_law_in w h)
  have hown : s.vm.findClass RL = some m.cls := hown
  have hK := hE.k
  refine lv_aload_n hx hb dL_law_489 rfl (lv_at hl 2 rfl) ?_
  refine lv_aload_n hx hb dL_law_490 rfl (lv_at hl 3 rfl) ?_
  refine lv_iload_n hx hb dL_law_491 rfl (lv_at hl 0 rfl) ?_
  refine lv_iconst (v := 1) hx hb dL_law_492 (by decide) ?_
  refine lv_iadd hx hb dL_law_493 ?_
  refine lv_topi (fun y_1 e_1 => ?_)
  obtain rfl : y_1 = 1 := by rw [e_1]; decide
  have hin_494 : vp_in 1 5 := by unfold vp_in; decide
  refine va_sld hx hb hX hbl hbA hS hin_494 dL_law_494 ?_
  refine lv_aload_n hx hb dL_law_495 rfl (lv_at hl 3 rfl) ?_
  refine lv_iload_n hx hb dL_law_496 rfl (lv_at hl 0 rfl) ?_
  refine lv_iconst (v := 2) hx hb dL_law_497 (by decide) ?_
  refine lv_iadd hx hb dL_law_498 ?_
  refine lv_topi (fun y_2 e_2 => ?_)
  obtain rfl : y_2 = 2 := by rw [e_2]; decide
  have hin_499 : vp_in 2 5 := by unfold vp_in; decide
  refine va_sld hx hb hX hbl hbA hS hin_499 dL_law_499 ?_
  refine lv_aload_n hx hb dL_law_500 rfl (lv_at hl 3 rfl) ?_
  refine lv_iload_n hx hb dL_law_501 rfl (lv_at hl 0 rfl) ?_
  refine lv_iconst (v := 3) hx hb dL_law_502 (by decide) ?_
  refine lv_iadd hx hb dL_law_503 ?_
  refine lv_topi (fun y_3 e_3 => ?_)
  obtain rfl : y_3 = 3 := by rw [e_3]; decide
  have hin_504 : vp_in 3 5 := by unfold vp_in; decide
  refine va_sld hx hb hX hbl hbA hS hin_504 dL_law_504 ?_
  have hPc := hP.sub (ws' := [(h0, .inr (11, [.ref b, .ref d, .ref lo, .ref ma])), (b, .inr (0, [.ref pr, .int 0]))]) [0, 1] rfl
  refine vp_callSi (va_Run.run (va_runV (As := [.int (xs (1 : Int32).toNatClampNeg), .int (xs (2 : Int32).toNatClampNeg), .int (xs (3 : Int32).toNatClampNeg)]) (rest := []) ⟨hx, hb, hml, hown, hts⟩ (zc_X11_part l D cI cZ cP cF h0 b d lo ma pr (xs (1 : Int32).toNatClampNeg) (xs (2 : Int32).toNatClampNeg) (xs (3 : Int32).toNatClampNeg)) (cwV 3 hts zg_law_zc_X11_part rfl rfl rfl (by decide +kernel) ⟨Nat.le_of_ble_eq_true rfl, Nat.le_of_ble_eq_true rfl⟩) ⟨zBR, va_recv hK hPc (ci := 11) (q0 := 0) rfl rfl, fun U hU hW => ⟨rfl, by rw [hU]; exact hPc, hE.warm hW⟩⟩ rfl rfl hl.1 rfl (lv_room (Nat.le_of_ble_eq_true rfl)) dL_law_505 ⟨Nat.le_of_ble_eq_true rfl, Nat.le_of_ble_eq_true rfl⟩)) (fun r_505_4 h_505_4 => ?_)
  obtain rfl : r_505_4 = (-2147483648) := h_505_4
  refine lv_aload_n hx hb dL_law_508 rfl (lv_at hl 1 rfl) ?_
  refine lv_aload_n hx hb dL_law_509 rfl (lv_at hl 3 rfl) ?_
  refine lv_iload_n hx hb dL_law_510 rfl (lv_at hl 0 rfl) ?_
  refine lv_iconst (v := 1) hx hb dL_law_511 (by decide) ?_
  refine lv_iadd hx hb dL_law_512 ?_
  refine lv_topi (fun y_5 e_5 => ?_)
  obtain rfl : y_5 = 1 := by rw [e_5]; decide
  have hin_513 : vp_in 1 5 := by unfold vp_in; decide
  refine va_sld hx hb hX hbl hbA hS hin_513 dL_law_513 ?_
  refine lv_aload_n hx hb dL_law_514 rfl (lv_at hl 3 rfl) ?_
  refine lv_iload_n hx hb dL_law_515 rfl (lv_at hl 0 rfl) ?_
  refine lv_iconst (v := 2) hx hb dL_law_516 (by decide) ?_
  refine lv_iadd hx hb dL_law_517 ?_
  refine lv_topi (fun y_6 e_6 => ?_)
  obtain rfl : y_6 = 2 := by rw [e_6]; decide
  have hin_518 : vp_in 2 5 := by unfold vp_in; decide
  refine va_sld hx hb hX hbl hbA hS hin_518 dL_law_518 ?_
  refine lv_aload_n hx hb dL_law_519 rfl (lv_at hl 3 rfl) ?_
  refine lv_iload_n hx hb dL_law_520 rfl (lv_at hl 0 rfl) ?_
  refine lv_iconst (v := 3) hx hb dL_law_521 (by decide) ?_
  refine lv_iadd hx hb dL_law_522 ?_
  refine lv_topi (fun y_7 e_7 => ?_)
  obtain rfl : y_7 = 3 := by rw [e_7]; decide
  have hin_523 : vp_in 3 5 := by unfold vp_in; decide
  refine va_sld hx hb hX hbl hbA hS hin_523 dL_law_523 ?_
  have hPc := hP.sub (ws' := [(m0, .inr (12, [.int 0, .ref q_args, .ref q_locals, .ref q_many, .ref q_op, .ref q_operand, .ref q_isLooked, .ref q_depths, .ref q_deepest, .int 0, .ref q_waits, .ref q_gone, .ref q_fields, .ref q_sizes, .ref q_rows, .ref q_hasCode, .ref q_counted, .ref q_madeCodes, .ref q_guardsFailed, .ref q_codeCalls, .ref q_value, .ref q_isLike, .ref q_doesVary, .ref q_partMany, .ref q_starts, .ref q_partOp, .ref q_partD, .ref q_partA, .ref q_partB, .ref q_partOf, .ref q_assumed, .int 0, .int 0, .ref q_localKnown, .ref q_localIs, .ref q_placeKnown, .ref q_placeIs, .int 0, .ref q_frameMethod, .ref q_frameAt, .ref q_frameCode, .ref q_frameDepth, .ref q_register, .int 0, .int 0, .int 0, .int 0, .int 0, .int 0, .int 0, .ref q_trap, .ref q_first]))]) [2] rfl
  refine vp_callSi (va_Run.run (va_runV (As := [.int (xs (1 : Int32).toNatClampNeg), .int (xs (2 : Int32).toNatClampNeg), .int (xs (3 : Int32).toNatClampNeg)]) (rest := [.int (-2147483648)]) ⟨hx, hb, hml, hown, hts⟩ (zc_X12_part l D cI cZ cP cF m0 q_args q_locals q_many q_op q_operand q_isLooked q_depths q_deepest q_waits q_gone q_fields q_sizes q_rows q_hasCode q_counted q_madeCodes q_guardsFailed q_codeCalls q_value q_isLike q_doesVary q_partMany q_starts q_partOp q_partD q_partA q_partB q_partOf q_assumed q_localKnown q_localIs q_placeKnown q_placeIs q_frameMethod q_frameAt q_frameCode q_frameDepth q_register q_trap q_first (xs (1 : Int32).toNatClampNeg) (xs (2 : Int32).toNatClampNeg) (xs (3 : Int32).toNatClampNeg)) (cwV 3 hts zg_law_zc_X12_part rfl rfl rfl (by decide +kernel) ⟨Nat.le_of_ble_eq_true rfl, Nat.le_of_ble_eq_true rfl⟩) ⟨zBR, va_recv hK hPc (ci := 12) (q0 := 0) rfl rfl, fun U hU hW => ⟨rfl, by rw [hU]; exact hPc, hE.warm hW⟩⟩ rfl rfl hl.1 rfl (lv_room (Nat.le_of_ble_eq_true rfl)) dL_law_524 ⟨Nat.le_of_ble_eq_true rfl, Nat.le_of_ble_eq_true rfl⟩)) (fun r_524_8 h_524_8 => ?_)
  obtain rfl : r_524_8 = (-2147483648) := h_524_8
  refine lv_icmp_eq (tgt := 635) hx hb dL_law_527 (by decide) (fun _ => ?_) (fun c => absurd (by decide) c)
  exact zl_tail l C0 hA hbA hfin (Nat.le_of_ble_eq_true rfl) (Nat.le_of_ble_eq_true rfl) hS (lv_sub hl [0, 3] rfl)

set_option maxHeartbeats 4000000 in
set_option maxRecDepth 100000 in
theorem zl_14 {p : Program} {e : Env} {s : State} {m : MethodId} {below : List Frame} {meth : Method} {c : Code} (l : Launch) {bs : Nat} {xs : Nat → Int32} (C0 : lw_At p s m meth c bs 5 xs) {A : Nat → Prop} (hA : ∀ q : Nat, s.heap.size ≤ q → A q) (hbA : ¬ A bs) (hfin : ∀ q : Nat, A q → s.heap.size ≤ q) {D : va_G} {cI cZ cP cF : Nat} (hE : zE D cI cZ cP cF s) {h0 b d lo ma pr f le it dr wa sm ta fr ha tr m0 q_args q_locals q_many q_op q_operand q_isLooked q_depths q_deepest q_waits q_gone q_fields q_sizes q_rows q_hasCode q_counted q_madeCodes q_guardsFailed q_codeCalls q_value q_isLike q_doesVary q_partMany q_starts q_partOp q_partD q_partA q_partB q_partOf q_assumed q_localKnown q_localIs q_placeKnown q_placeIs q_frameMethod q_frameAt q_frameCode q_frameDepth q_register q_trap q_first : Nat} {g g2 : Nat → Int32} (hM : zM4 g) (hM2 : zM4 g2) {H : Heap} {locs : List Loc} {ls : Array Slot} (hP : va_P D vwCl [(h0, .inr (11, [.ref b, .ref d, .ref lo, .ref ma])), (b, .inr (0, [.ref pr, .int 0])), (m0, .inr (12, [.int 0, .ref q_args, .ref q_locals, .ref q_many, .ref q_op, .ref q_operand, .ref q_isLooked, .ref q_depths, .ref q_deepest, .int 0, .ref q_waits, .ref q_gone, .ref q_fields, .ref q_sizes, .ref q_rows, .ref q_hasCode, .ref q_counted, .ref q_madeCodes, .ref q_guardsFailed, .ref q_codeCalls, .ref q_value, .ref q_isLike, .ref q_doesVary, .ref q_partMany, .ref q_starts, .ref q_partOp, .ref q_partD, .ref q_partA, .ref q_partB, .ref q_partOf, .ref q_assumed, .int 0, .int 0, .ref q_localKnown, .ref q_localIs, .ref q_placeKnown, .ref q_placeIs, .int 0, .ref q_frameMethod, .ref q_frameAt, .ref q_frameCode, .ref q_frameDepth, .ref q_register, .int 0, .int 0, .int 0, .int 0, .int 0, .int 0, .int 0, .ref q_trap, .ref q_first]))] H) (hD : va_D A [(h0, .inr (11, [.ref b, .ref d, .ref lo, .ref ma])), (b, .inr (0, [.ref pr, .int 0])), (m0, .inr (12, [.int 0, .ref q_args, .ref q_locals, .ref q_many, .ref q_op, .ref q_operand, .ref q_isLooked, .ref q_depths, .ref q_deepest, .int 0, .ref q_waits, .ref q_gone, .ref q_fields, .ref q_sizes, .ref q_rows, .ref q_hasCode, .ref q_counted, .ref q_madeCodes, .ref q_guardsFailed, .ref q_codeCalls, .ref q_value, .ref q_isLike, .ref q_doesVary, .ref q_partMany, .ref q_starts, .ref q_partOp, .ref q_partD, .ref q_partA, .ref q_partB, .ref q_partOf, .ref q_assumed, .int 0, .int 0, .ref q_localKnown, .ref q_localIs, .ref q_placeKnown, .ref q_placeIs, .int 0, .ref q_frameMethod, .ref q_frameAt, .ref q_frameCode, .ref q_frameDepth, .ref q_register, .int 0, .int 0, .int 0, .int 0, .int 0, .int 0, .int 0, .ref q_trap, .ref q_first]))]) (hS : va_S A s.heap H locs) (hl : lv_has ls 4 [(3, .int 0), (2, .ref m0), (1, .ref h0), (0, .ref bs)]) : W p l e room_1 s m #[Value.ref bs] below meth c H locs 95 323715 (lw_Z below #[Value.ref bs] s) (F0 m 532 ls []) := by
  obtain ⟨hx, hb, hr, hml, hown, hts0, hX, hbl, hlocks, hgv⟩ := id C0
  have hts : ∀ w ∈ zw_law, w.before #[Value.ref bs] s = true := fun w h => hts0 w (zw_law_in w h)
  have hown : s.vm.findClass RL = some m.cls := hown
  have hK := hE.k
  refine lv_aload_n hx hb dL_law_532 rfl (lv_at hl 2 rfl) ?_
  refine lv_aload_n hx hb dL_law_533 rfl (lv_at hl 3 rfl) ?_
  refine lv_iload_n hx hb dL_law_534 rfl (lv_at hl 0 rfl) ?_
  refine lv_iconst (v := 1) hx hb dL_law_535 (by decide) ?_
  refine lv_iadd hx hb dL_law_536 ?_
  refine lv_topi (fun y_1 e_1 => ?_)
  obtain rfl : y_1 = 1 := by rw [e_1]; decide
  have hin_537 : vp_in 1 5 := by unfold vp_in; decide
  refine va_sld hx hb hX hbl hbA hS hin_537 dL_law_537 ?_
  refine lv_aload_n hx hb dL_law_538 rfl (lv_at hl 3 rfl) ?_
  refine lv_iload_n hx hb dL_law_539 rfl (lv_at hl 0 rfl) ?_
  refine lv_iconst (v := 2) hx hb dL_law_540 (by decide) ?_
  refine lv_iadd hx hb dL_law_541 ?_
  refine lv_topi (fun y_2 e_2 => ?_)
  obtain rfl : y_2 = 2 := by rw [e_2]; decide
  have hin_542 : vp_in 2 5 := by unfold vp_in; decide
  refine va_sld hx hb hX hbl hbA hS hin_542 dL_law_542 ?_
  have hPc := hP.sub (ws' := [(h0, .inr (11, [.ref b, .ref d, .ref lo, .ref ma])), (b, .inr (0, [.ref pr, .int 0]))]) [0, 1] rfl
  refine vp_callSi (va_Run.run (va_runV (As := [.int (xs (1 : Int32).toNatClampNeg), .int (xs (2 : Int32).toNatClampNeg)]) (rest := []) ⟨hx, hb, hml, hown, hts⟩ (zc_X11_varies l D cI cZ cP cF h0 b d lo ma pr (xs (1 : Int32).toNatClampNeg) (xs (2 : Int32).toNatClampNeg)) (cwV 2 hts zg_law_zc_X11_varies rfl rfl rfl (by decide +kernel) ⟨Nat.le_of_ble_eq_true rfl, Nat.le_of_ble_eq_true rfl⟩) ⟨zBR, va_recv hK hPc (ci := 11) (q0 := 0) rfl rfl, fun U hU hW => ⟨rfl, by rw [hU]; exact hPc, hE.warm hW⟩⟩ rfl rfl hl.1 rfl (lv_room (Nat.le_of_ble_eq_true rfl)) dL_law_543 ⟨Nat.le_of_ble_eq_true rfl, Nat.le_of_ble_eq_true rfl⟩)) (fun r_543_3 h_543_3 => ?_)
  obtain rfl : r_543_3 = (-2) := h_543_3
  refine lv_aload_n hx hb dL_law_546 rfl (lv_at hl 1 rfl) ?_
  refine lv_aload_n hx hb dL_law_547 rfl (lv_at hl 3 rfl) ?_
  refine lv_iload_n hx hb dL_law_548 rfl (lv_at hl 0 rfl) ?_
  refine lv_iconst (v := 1) hx hb dL_law_549 (by decide) ?_
  refine lv_iadd hx hb dL_law_550 ?_
  refine lv_topi (fun y_4 e_4 => ?_)
  obtain rfl : y_4 = 1 := by rw [e_4]; decide
  have hin_551 : vp_in 1 5 := by unfold vp_in; decide
  refine va_sld hx hb hX hbl hbA hS hin_551 dL_law_551 ?_
  refine lv_aload_n hx hb dL_law_552 rfl (lv_at hl 3 rfl) ?_
  refine lv_iload_n hx hb dL_law_553 rfl (lv_at hl 0 rfl) ?_
  refine lv_iconst (v := 2) hx hb dL_law_554 (by decide) ?_
  refine lv_iadd hx hb dL_law_555 ?_
  refine lv_topi (fun y_5 e_5 => ?_)
  obtain rfl : y_5 = 2 := by rw [e_5]; decide
  have hin_556 : vp_in 2 5 := by unfold vp_in; decide
  refine va_sld hx hb hX hbl hbA hS hin_556 dL_law_556 ?_
  have hPc := hP.sub (ws' := [(m0, .inr (12, [.int 0, .ref q_args, .ref q_locals, .ref q_many, .ref q_op, .ref q_operand, .ref q_isLooked, .ref q_depths, .ref q_deepest, .int 0, .ref q_waits, .ref q_gone, .ref q_fields, .ref q_sizes, .ref q_rows, .ref q_hasCode, .ref q_counted, .ref q_madeCodes, .ref q_guardsFailed, .ref q_codeCalls, .ref q_value, .ref q_isLike, .ref q_doesVary, .ref q_partMany, .ref q_starts, .ref q_partOp, .ref q_partD, .ref q_partA, .ref q_partB, .ref q_partOf, .ref q_assumed, .int 0, .int 0, .ref q_localKnown, .ref q_localIs, .ref q_placeKnown, .ref q_placeIs, .int 0, .ref q_frameMethod, .ref q_frameAt, .ref q_frameCode, .ref q_frameDepth, .ref q_register, .int 0, .int 0, .int 0, .int 0, .int 0, .int 0, .int 0, .ref q_trap, .ref q_first]))]) [2] rfl
  refine vp_callSi (va_Run.run (va_runV (As := [.int (xs (1 : Int32).toNatClampNeg), .int (xs (2 : Int32).toNatClampNeg)]) (rest := [.int (-2)]) ⟨hx, hb, hml, hown, hts⟩ (zc_X12_varies l D cI cZ cP cF m0 q_args q_locals q_many q_op q_operand q_isLooked q_depths q_deepest q_waits q_gone q_fields q_sizes q_rows q_hasCode q_counted q_madeCodes q_guardsFailed q_codeCalls q_value q_isLike q_doesVary q_partMany q_starts q_partOp q_partD q_partA q_partB q_partOf q_assumed q_localKnown q_localIs q_placeKnown q_placeIs q_frameMethod q_frameAt q_frameCode q_frameDepth q_register q_trap q_first (xs (1 : Int32).toNatClampNeg) (xs (2 : Int32).toNatClampNeg)) (cwV 2 hts zg_law_zc_X12_varies rfl rfl rfl (by decide +kernel) ⟨Nat.le_of_ble_eq_true rfl, Nat.le_of_ble_eq_true rfl⟩) ⟨zBR, va_recv hK hPc (ci := 12) (q0 := 0) rfl rfl, fun U hU hW => ⟨rfl, by rw [hU]; exact hPc, hE.warm hW⟩⟩ rfl rfl hl.1 rfl (lv_room (Nat.le_of_ble_eq_true rfl)) dL_law_557 ⟨Nat.le_of_ble_eq_true rfl, Nat.le_of_ble_eq_true rfl⟩)) (fun r_557_6 h_557_6 => ?_)
  obtain rfl : r_557_6 = (-2) := h_557_6
  refine lv_icmp_eq (tgt := 635) hx hb dL_law_560 (by decide) (fun _ => ?_) (fun c => absurd (by decide) c)
  exact zl_tail l C0 hA hbA hfin (Nat.le_of_ble_eq_true rfl) (Nat.le_of_ble_eq_true rfl) hS (lv_sub hl [0, 3] rfl)

set_option maxHeartbeats 4000000 in
set_option maxRecDepth 100000 in
theorem zl_15 {p : Program} {e : Env} {s : State} {m : MethodId} {below : List Frame} {meth : Method} {c : Code} (l : Launch) {bs : Nat} {xs : Nat → Int32} (C0 : lw_At p s m meth c bs 5 xs) {A : Nat → Prop} (hA : ∀ q : Nat, s.heap.size ≤ q → A q) (hbA : ¬ A bs) (hfin : ∀ q : Nat, A q → s.heap.size ≤ q) {D : va_G} {cI cZ cP cF : Nat} (hE : zE D cI cZ cP cF s) {h0 b d lo ma pr f le it dr wa sm ta fr ha tr m0 q_args q_locals q_many q_op q_operand q_isLooked q_depths q_deepest q_waits q_gone q_fields q_sizes q_rows q_hasCode q_counted q_madeCodes q_guardsFailed q_codeCalls q_value q_isLike q_doesVary q_partMany q_starts q_partOp q_partD q_partA q_partB q_partOf q_assumed q_localKnown q_localIs q_placeKnown q_placeIs q_frameMethod q_frameAt q_frameCode q_frameDepth q_register q_trap q_first : Nat} {g g2 : Nat → Int32} (hM : zM4 g) (hM2 : zM4 g2) {H : Heap} {locs : List Loc} {ls : Array Slot} (hP : va_P D vwCl [(h0, .inr (11, [.ref b, .ref d, .ref lo, .ref ma])), (b, .inr (0, [.ref pr, .int 0])), (m0, .inr (12, [.int 0, .ref q_args, .ref q_locals, .ref q_many, .ref q_op, .ref q_operand, .ref q_isLooked, .ref q_depths, .ref q_deepest, .int 0, .ref q_waits, .ref q_gone, .ref q_fields, .ref q_sizes, .ref q_rows, .ref q_hasCode, .ref q_counted, .ref q_madeCodes, .ref q_guardsFailed, .ref q_codeCalls, .ref q_value, .ref q_isLike, .ref q_doesVary, .ref q_partMany, .ref q_starts, .ref q_partOp, .ref q_partD, .ref q_partA, .ref q_partB, .ref q_partOf, .ref q_assumed, .int 0, .int 0, .ref q_localKnown, .ref q_localIs, .ref q_placeKnown, .ref q_placeIs, .int 0, .ref q_frameMethod, .ref q_frameAt, .ref q_frameCode, .ref q_frameDepth, .ref q_register, .int 0, .int 0, .int 0, .int 0, .int 0, .int 0, .int 0, .ref q_trap, .ref q_first]))] H) (hD : va_D A [(h0, .inr (11, [.ref b, .ref d, .ref lo, .ref ma])), (b, .inr (0, [.ref pr, .int 0])), (m0, .inr (12, [.int 0, .ref q_args, .ref q_locals, .ref q_many, .ref q_op, .ref q_operand, .ref q_isLooked, .ref q_depths, .ref q_deepest, .int 0, .ref q_waits, .ref q_gone, .ref q_fields, .ref q_sizes, .ref q_rows, .ref q_hasCode, .ref q_counted, .ref q_madeCodes, .ref q_guardsFailed, .ref q_codeCalls, .ref q_value, .ref q_isLike, .ref q_doesVary, .ref q_partMany, .ref q_starts, .ref q_partOp, .ref q_partD, .ref q_partA, .ref q_partB, .ref q_partOf, .ref q_assumed, .int 0, .int 0, .ref q_localKnown, .ref q_localIs, .ref q_placeKnown, .ref q_placeIs, .int 0, .ref q_frameMethod, .ref q_frameAt, .ref q_frameCode, .ref q_frameDepth, .ref q_register, .int 0, .int 0, .int 0, .int 0, .int 0, .int 0, .int 0, .ref q_trap, .ref q_first]))]) (hS : va_S A s.heap H locs) (hl : lv_has ls 4 [(3, .int 0), (2, .ref m0), (1, .ref h0), (0, .ref bs)]) : W p l e room_1 s m #[Value.ref bs] below meth c H locs 95 323715 (lw_Z below #[Value.ref bs] s) (F0 m 565 ls []) := by
  obtain ⟨hx, hb, hr, hml, hown, hts0, hX, hbl, hlocks, hgv⟩ := id C0
  have hts : ∀ w ∈ zw_law, w.before #[Value.ref bs] s = true := fun w h => hts0 w (zw_law_in w h)
  have hown : s.vm.findClass RL = some m.cls := hown
  have hK := hE.k
  refine lv_aload_n hx hb dL_law_565 rfl (lv_at hl 2 rfl) ?_
  refine lv_aload_n hx hb dL_law_566 rfl (lv_at hl 3 rfl) ?_
  refine lv_iload_n hx hb dL_law_567 rfl (lv_at hl 0 rfl) ?_
  refine lv_iconst (v := 1) hx hb dL_law_568 (by decide) ?_
  refine lv_iadd hx hb dL_law_569 ?_
  refine lv_topi (fun y_1 e_1 => ?_)
  obtain rfl : y_1 = 1 := by rw [e_1]; decide
  have hin_570 : vp_in 1 5 := by unfold vp_in; decide
  refine va_sld hx hb hX hbl hbA hS hin_570 dL_law_570 ?_
  refine lv_aload_n hx hb dL_law_571 rfl (lv_at hl 3 rfl) ?_
  refine lv_iload_n hx hb dL_law_572 rfl (lv_at hl 0 rfl) ?_
  refine lv_iconst (v := 2) hx hb dL_law_573 (by decide) ?_
  refine lv_iadd hx hb dL_law_574 ?_
  refine lv_topi (fun y_2 e_2 => ?_)
  obtain rfl : y_2 = 2 := by rw [e_2]; decide
  have hin_575 : vp_in 2 5 := by unfold vp_in; decide
  refine va_sld hx hb hX hbl hbA hS hin_575 dL_law_575 ?_
  have hPc := hP.sub (ws' := [(h0, .inr (11, [.ref b, .ref d, .ref lo, .ref ma])), (b, .inr (0, [.ref pr, .int 0]))]) [0, 1] rfl
  refine vp_callSi (va_Run.run (va_runV (As := [.int (xs (1 : Int32).toNatClampNeg), .int (xs (2 : Int32).toNatClampNeg)]) (rest := []) ⟨hx, hb, hml, hown, hts⟩ (zc_X11_depth l D cI cZ cP cF h0 b d lo ma pr (xs (1 : Int32).toNatClampNeg) (xs (2 : Int32).toNatClampNeg)) (cwV 2 hts zg_law_zc_X11_depth rfl rfl rfl (by decide +kernel) ⟨Nat.le_of_ble_eq_true rfl, Nat.le_of_ble_eq_true rfl⟩) ⟨zBR, va_recv hK hPc (ci := 11) (q0 := 0) rfl rfl, fun U hU hW => ⟨rfl, by rw [hU]; exact hPc, hE.warm hW⟩⟩ rfl rfl hl.1 rfl (lv_room (Nat.le_of_ble_eq_true rfl)) dL_law_576 ⟨Nat.le_of_ble_eq_true rfl, Nat.le_of_ble_eq_true rfl⟩)) (fun r_576_3 h_576_3 => ?_)
  obtain rfl : r_576_3 = (-2) := h_576_3
  refine lv_aload_n hx hb dL_law_579 rfl (lv_at hl 1 rfl) ?_
  refine lv_aload_n hx hb dL_law_580 rfl (lv_at hl 3 rfl) ?_
  refine lv_iload_n hx hb dL_law_581 rfl (lv_at hl 0 rfl) ?_
  refine lv_iconst (v := 1) hx hb dL_law_582 (by decide) ?_
  refine lv_iadd hx hb dL_law_583 ?_
  refine lv_topi (fun y_4 e_4 => ?_)
  obtain rfl : y_4 = 1 := by rw [e_4]; decide
  have hin_584 : vp_in 1 5 := by unfold vp_in; decide
  refine va_sld hx hb hX hbl hbA hS hin_584 dL_law_584 ?_
  refine lv_aload_n hx hb dL_law_585 rfl (lv_at hl 3 rfl) ?_
  refine lv_iload_n hx hb dL_law_586 rfl (lv_at hl 0 rfl) ?_
  refine lv_iconst (v := 2) hx hb dL_law_587 (by decide) ?_
  refine lv_iadd hx hb dL_law_588 ?_
  refine lv_topi (fun y_5 e_5 => ?_)
  obtain rfl : y_5 = 2 := by rw [e_5]; decide
  have hin_589 : vp_in 2 5 := by unfold vp_in; decide
  refine va_sld hx hb hX hbl hbA hS hin_589 dL_law_589 ?_
  have hPc := hP.sub (ws' := [(m0, .inr (12, [.int 0, .ref q_args, .ref q_locals, .ref q_many, .ref q_op, .ref q_operand, .ref q_isLooked, .ref q_depths, .ref q_deepest, .int 0, .ref q_waits, .ref q_gone, .ref q_fields, .ref q_sizes, .ref q_rows, .ref q_hasCode, .ref q_counted, .ref q_madeCodes, .ref q_guardsFailed, .ref q_codeCalls, .ref q_value, .ref q_isLike, .ref q_doesVary, .ref q_partMany, .ref q_starts, .ref q_partOp, .ref q_partD, .ref q_partA, .ref q_partB, .ref q_partOf, .ref q_assumed, .int 0, .int 0, .ref q_localKnown, .ref q_localIs, .ref q_placeKnown, .ref q_placeIs, .int 0, .ref q_frameMethod, .ref q_frameAt, .ref q_frameCode, .ref q_frameDepth, .ref q_register, .int 0, .int 0, .int 0, .int 0, .int 0, .int 0, .int 0, .ref q_trap, .ref q_first]))]) [2] rfl
  refine vp_callSi (va_Run.run (va_runV (As := [.int (xs (1 : Int32).toNatClampNeg), .int (xs (2 : Int32).toNatClampNeg)]) (rest := [.int (-2)]) ⟨hx, hb, hml, hown, hts⟩ (zc_X12_depth l D cI cZ cP cF m0 q_args q_locals q_many q_op q_operand q_isLooked q_depths q_deepest q_waits q_gone q_fields q_sizes q_rows q_hasCode q_counted q_madeCodes q_guardsFailed q_codeCalls q_value q_isLike q_doesVary q_partMany q_starts q_partOp q_partD q_partA q_partB q_partOf q_assumed q_localKnown q_localIs q_placeKnown q_placeIs q_frameMethod q_frameAt q_frameCode q_frameDepth q_register q_trap q_first (xs (1 : Int32).toNatClampNeg) (xs (2 : Int32).toNatClampNeg)) (cwV 2 hts zg_law_zc_X12_depth rfl rfl rfl (by decide +kernel) ⟨Nat.le_of_ble_eq_true rfl, Nat.le_of_ble_eq_true rfl⟩) ⟨zBR, va_recv hK hPc (ci := 12) (q0 := 0) rfl rfl, fun U hU hW => ⟨rfl, by rw [hU]; exact hPc, hE.warm hW⟩⟩ rfl rfl hl.1 rfl (lv_room (Nat.le_of_ble_eq_true rfl)) dL_law_590 ⟨Nat.le_of_ble_eq_true rfl, Nat.le_of_ble_eq_true rfl⟩)) (fun r_590_6 h_590_6 => ?_)
  obtain rfl : r_590_6 = (-2) := h_590_6
  refine lv_icmp_eq (tgt := 635) hx hb dL_law_593 (by decide) (fun _ => ?_) (fun c => absurd (by decide) c)
  exact zl_tail l C0 hA hbA hfin (Nat.le_of_ble_eq_true rfl) (Nat.le_of_ble_eq_true rfl) hS (lv_sub hl [0, 3] rfl)

set_option maxHeartbeats 4000000 in
set_option maxRecDepth 100000 in
theorem zl_16 {p : Program} {e : Env} {s : State} {m : MethodId} {below : List Frame} {meth : Method} {c : Code} (l : Launch) {bs : Nat} {xs : Nat → Int32} (C0 : lw_At p s m meth c bs 5 xs) {A : Nat → Prop} (hA : ∀ q : Nat, s.heap.size ≤ q → A q) (hbA : ¬ A bs) (hfin : ∀ q : Nat, A q → s.heap.size ≤ q) {D : va_G} {cI cZ cP cF : Nat} (hE : zE D cI cZ cP cF s) {h0 b d lo ma pr f le it dr wa sm ta fr ha tr m0 q_args q_locals q_many q_op q_operand q_isLooked q_depths q_deepest q_waits q_gone q_fields q_sizes q_rows q_hasCode q_counted q_madeCodes q_guardsFailed q_codeCalls q_value q_isLike q_doesVary q_partMany q_starts q_partOp q_partD q_partA q_partB q_partOf q_assumed q_localKnown q_localIs q_placeKnown q_placeIs q_frameMethod q_frameAt q_frameCode q_frameDepth q_register q_trap q_first : Nat} {g g2 : Nat → Int32} (hM : zM4 g) (hM2 : zM4 g2) {H : Heap} {locs : List Loc} {ls : Array Slot} (hP : va_P D vwCl [(h0, .inr (11, [.ref b, .ref d, .ref lo, .ref ma])), (b, .inr (0, [.ref pr, .int 0])), (ma, .inr (7, [.ref b, .ref d, .ref sm, .ref ta, .ref fr, .ref ha, .int 0, .int 0, .int 0, .int 0])), (ta, .inr (10, [.int 0, .int 0, .int 0, .int 0, .int 0, .int 0, .ref tr])), (m0, .inr (12, [.int 0, .ref q_args, .ref q_locals, .ref q_many, .ref q_op, .ref q_operand, .ref q_isLooked, .ref q_depths, .ref q_deepest, .int 0, .ref q_waits, .ref q_gone, .ref q_fields, .ref q_sizes, .ref q_rows, .ref q_hasCode, .ref q_counted, .ref q_madeCodes, .ref q_guardsFailed, .ref q_codeCalls, .ref q_value, .ref q_isLike, .ref q_doesVary, .ref q_partMany, .ref q_starts, .ref q_partOp, .ref q_partD, .ref q_partA, .ref q_partB, .ref q_partOf, .ref q_assumed, .int 0, .int 0, .ref q_localKnown, .ref q_localIs, .ref q_placeKnown, .ref q_placeIs, .int 0, .ref q_frameMethod, .ref q_frameAt, .ref q_frameCode, .ref q_frameDepth, .ref q_register, .int 0, .int 0, .int 0, .int 0, .int 0, .int 0, .int 0, .ref q_trap, .ref q_first]))] H) (hD : va_D A [(h0, .inr (11, [.ref b, .ref d, .ref lo, .ref ma])), (b, .inr (0, [.ref pr, .int 0])), (ma, .inr (7, [.ref b, .ref d, .ref sm, .ref ta, .ref fr, .ref ha, .int 0, .int 0, .int 0, .int 0])), (ta, .inr (10, [.int 0, .int 0, .int 0, .int 0, .int 0, .int 0, .ref tr])), (m0, .inr (12, [.int 0, .ref q_args, .ref q_locals, .ref q_many, .ref q_op, .ref q_operand, .ref q_isLooked, .ref q_depths, .ref q_deepest, .int 0, .ref q_waits, .ref q_gone, .ref q_fields, .ref q_sizes, .ref q_rows, .ref q_hasCode, .ref q_counted, .ref q_madeCodes, .ref q_guardsFailed, .ref q_codeCalls, .ref q_value, .ref q_isLike, .ref q_doesVary, .ref q_partMany, .ref q_starts, .ref q_partOp, .ref q_partD, .ref q_partA, .ref q_partB, .ref q_partOf, .ref q_assumed, .int 0, .int 0, .ref q_localKnown, .ref q_localIs, .ref q_placeKnown, .ref q_placeIs, .int 0, .ref q_frameMethod, .ref q_frameAt, .ref q_frameCode, .ref q_frameDepth, .ref q_register, .int 0, .int 0, .int 0, .int 0, .int 0, .int 0, .int 0, .ref q_trap, .ref q_first]))]) (hS : va_S A s.heap H locs) (hl : lv_has ls 4 [(3, .int 0), (2, .ref m0), (1, .ref h0), (0, .ref bs)]) : W p l e room_1 s m #[Value.ref bs] below meth c H locs 95 323715 (lw_Z below #[Value.ref bs] s) (F0 m 598 ls []) := by
  obtain ⟨hx, hb, hr, hml, hown, hts0, hX, hbl, hlocks, hgv⟩ := id C0
  have hts : ∀ w ∈ zw_law, w.before #[Value.ref bs] s = true := fun w h => hts0 w (zw_law_in w h)
  have hown : s.vm.findClass RL = some m.cls := hown
  have hK := hE.k
  refine lv_aload_n hx hb dL_law_598 rfl (lv_at hl 2 rfl) ?_
  refine lv_aload_n hx hb dL_law_599 rfl (lv_at hl 3 rfl) ?_
  refine lv_iload_n hx hb dL_law_600 rfl (lv_at hl 0 rfl) ?_
  refine lv_iconst (v := 1) hx hb dL_law_601 (by decide) ?_
  refine lv_iadd hx hb dL_law_602 ?_
  refine lv_topi (fun y_1 e_1 => ?_)
  obtain rfl : y_1 = 1 := by rw [e_1]; decide
  have hin_603 : vp_in 1 5 := by unfold vp_in; decide
  refine va_sld hx hb hX hbl hbA hS hin_603 dL_law_603 ?_
  have hPc := hP.sub (ws' := [(h0, .inr (11, [.ref b, .ref d, .ref lo, .ref ma])), (b, .inr (0, [.ref pr, .int 0])), (ma, .inr (7, [.ref b, .ref d, .ref sm, .ref ta, .ref fr, .ref ha, .int 0, .int 0, .int 0, .int 0])), (ta, .inr (10, [.int 0, .int 0, .int 0, .int 0, .int 0, .int 0, .ref tr]))]) [0, 1, 2, 3] rfl
  refine vp_callSi (va_Run.run (va_runV (As := [.int (xs (1 : Int32).toNatClampNeg)]) (rest := []) ⟨hx, hb, hml, hown, hts⟩ (zc_X11_count l D cI cZ cP cF h0 b d lo ma pr sm ta fr ha tr (xs (1 : Int32).toNatClampNeg)) (cwV 1 hts zg_law_zc_X11_count rfl rfl rfl (by decide +kernel) ⟨Nat.le_of_ble_eq_true rfl, Nat.le_of_ble_eq_true rfl⟩) ⟨zBR, va_recv hK hPc (ci := 11) (q0 := 0) rfl rfl, fun U hU hW => ⟨rfl, by rw [hU]; exact hPc, hE.warm hW⟩⟩ rfl rfl hl.1 rfl (lv_room (Nat.le_of_ble_eq_true rfl)) dL_law_604 ⟨Nat.le_of_ble_eq_true rfl, Nat.le_of_ble_eq_true rfl⟩)) (fun r_604_2 h_604_2 => ?_)
  obtain ⟨z_604, k_604⟩ : ∃ z, z = r_604_2 := ⟨_, rfl⟩
  rw [← k_604] at h_604_2 ⊢
  have hz_604 := h_604_2
  refine lv_aload_n hx hb dL_law_607 rfl (lv_at hl 1 rfl) ?_
  refine lv_aload_n hx hb dL_law_608 rfl (lv_at hl 3 rfl) ?_
  refine lv_iload_n hx hb dL_law_609 rfl (lv_at hl 0 rfl) ?_
  refine lv_iconst (v := 1) hx hb dL_law_610 (by decide) ?_
  refine lv_iadd hx hb dL_law_611 ?_
  refine lv_topi (fun y_3 e_3 => ?_)
  obtain rfl : y_3 = 1 := by rw [e_3]; decide
  have hin_612 : vp_in 1 5 := by unfold vp_in; decide
  refine va_sld hx hb hX hbl hbA hS hin_612 dL_law_612 ?_
  have hPc := hP.sub (ws' := [(m0, .inr (12, [.int 0, .ref q_args, .ref q_locals, .ref q_many, .ref q_op, .ref q_operand, .ref q_isLooked, .ref q_depths, .ref q_deepest, .int 0, .ref q_waits, .ref q_gone, .ref q_fields, .ref q_sizes, .ref q_rows, .ref q_hasCode, .ref q_counted, .ref q_madeCodes, .ref q_guardsFailed, .ref q_codeCalls, .ref q_value, .ref q_isLike, .ref q_doesVary, .ref q_partMany, .ref q_starts, .ref q_partOp, .ref q_partD, .ref q_partA, .ref q_partB, .ref q_partOf, .ref q_assumed, .int 0, .int 0, .ref q_localKnown, .ref q_localIs, .ref q_placeKnown, .ref q_placeIs, .int 0, .ref q_frameMethod, .ref q_frameAt, .ref q_frameCode, .ref q_frameDepth, .ref q_register, .int 0, .int 0, .int 0, .int 0, .int 0, .int 0, .int 0, .ref q_trap, .ref q_first]))]) [4] rfl
  refine vp_callSi (va_Run.run (va_runV (As := [.int (xs (1 : Int32).toNatClampNeg)]) (rest := [.int z_604]) ⟨hx, hb, hml, hown, hts⟩ (zc_X12_count l D cI cZ cP cF m0 q_args q_locals q_many q_op q_operand q_isLooked q_depths q_deepest q_waits q_gone q_fields q_sizes q_rows q_hasCode q_counted q_madeCodes q_guardsFailed q_codeCalls q_value q_isLike q_doesVary q_partMany q_starts q_partOp q_partD q_partA q_partB q_partOf q_assumed q_localKnown q_localIs q_placeKnown q_placeIs q_frameMethod q_frameAt q_frameCode q_frameDepth q_register q_trap q_first (xs (1 : Int32).toNatClampNeg)) (cwV 1 hts zg_law_zc_X12_count rfl rfl rfl (by decide +kernel) ⟨Nat.le_of_ble_eq_true rfl, Nat.le_of_ble_eq_true rfl⟩) ⟨zBR, va_recv hK hPc (ci := 12) (q0 := 0) rfl rfl, fun U hU hW => ⟨rfl, by rw [hU]; exact hPc, hE.warm hW⟩⟩ rfl rfl hl.1 rfl (lv_room (Nat.le_of_ble_eq_true rfl)) dL_law_613 ⟨Nat.le_of_ble_eq_true rfl, Nat.le_of_ble_eq_true rfl⟩)) (fun r_613_4 h_613_4 => ?_)
  obtain ⟨z_613, k_613⟩ : ∃ z, z = r_613_4 := ⟨_, rfl⟩
  rw [← k_613] at h_613_4 ⊢
  have hz_613 := h_613_4
  refine lv_icmp_eq (tgt := 635) hx hb dL_law_616 (by decide) (fun c_616 => ?_) (fun c_616 => absurd (hz_604.trans hz_613.symm) c_616)
  exact zl_tail l C0 hA hbA hfin (Nat.le_of_ble_eq_true rfl) (Nat.le_of_ble_eq_true rfl) hS (lv_sub hl [0, 3] rfl)

set_option maxHeartbeats 4000000 in
set_option maxRecDepth 100000 in
theorem zl_17 {p : Program} {e : Env} {s : State} {m : MethodId} {below : List Frame} {meth : Method} {c : Code} (l : Launch) {bs : Nat} {xs : Nat → Int32} (C0 : lw_At p s m meth c bs 5 xs) {A : Nat → Prop} (hA : ∀ q : Nat, s.heap.size ≤ q → A q) (hbA : ¬ A bs) (hfin : ∀ q : Nat, A q → s.heap.size ≤ q) {D : va_G} {cI cZ cP cF : Nat} (hE : zE D cI cZ cP cF s) {h0 b d lo ma pr f le it dr wa sm ta fr ha tr m0 q_args q_locals q_many q_op q_operand q_isLooked q_depths q_deepest q_waits q_gone q_fields q_sizes q_rows q_hasCode q_counted q_madeCodes q_guardsFailed q_codeCalls q_value q_isLike q_doesVary q_partMany q_starts q_partOp q_partD q_partA q_partB q_partOf q_assumed q_localKnown q_localIs q_placeKnown q_placeIs q_frameMethod q_frameAt q_frameCode q_frameDepth q_register q_trap q_first : Nat} {g g2 : Nat → Int32} (hM : zM4 g) (hM2 : zM4 g2) {H : Heap} {locs : List Loc} {ls : Array Slot} (hP : va_P D vwCl [(h0, .inr (11, [.ref b, .ref d, .ref lo, .ref ma])), (b, .inr (0, [.ref pr, .int 0])), (d, .inr (2, [.ref f, .ref le, .ref it])), (f, .inl (cI, 8, .inl (fun _ => 0))), (le, .inl (cI, 4, .inl g)), (ma, .inr (7, [.ref b, .ref d, .ref sm, .ref ta, .ref fr, .ref ha, .int 0, .int 0, .int 0, .int 0])), (ta, .inr (10, [.int 0, .int 0, .int 0, .int 0, .int 0, .int 0, .ref tr])), (tr, .inl (cI, 4, .inl (fun _ => 0))), (m0, .inr (12, [.int 0, .ref q_args, .ref q_locals, .ref q_many, .ref q_op, .ref q_operand, .ref q_isLooked, .ref q_depths, .ref q_deepest, .int 0, .ref q_waits, .ref q_gone, .ref q_fields, .ref q_sizes, .ref q_rows, .ref q_hasCode, .ref q_counted, .ref q_madeCodes, .ref q_guardsFailed, .ref q_codeCalls, .ref q_value, .ref q_isLike, .ref q_doesVary, .ref q_partMany, .ref q_starts, .ref q_partOp, .ref q_partD, .ref q_partA, .ref q_partB, .ref q_partOf, .ref q_assumed, .int 0, .int 0, .ref q_localKnown, .ref q_localIs, .ref q_placeKnown, .ref q_placeIs, .int 0, .ref q_frameMethod, .ref q_frameAt, .ref q_frameCode, .ref q_frameDepth, .ref q_register, .int 0, .int 0, .int 0, .int 0, .int 0, .int 0, .int 0, .ref q_trap, .ref q_first])), (q_fields, .inl (cI, 8, .inl (fun _ => 0))), (q_sizes, .inl (cI, 4, .inl g2)), (q_trap, .inl (cI, 4, .inl (fun _ => 0)))] H) (hD : va_D A [(h0, .inr (11, [.ref b, .ref d, .ref lo, .ref ma])), (b, .inr (0, [.ref pr, .int 0])), (d, .inr (2, [.ref f, .ref le, .ref it])), (f, .inl (cI, 8, .inl (fun _ => 0))), (le, .inl (cI, 4, .inl g)), (ma, .inr (7, [.ref b, .ref d, .ref sm, .ref ta, .ref fr, .ref ha, .int 0, .int 0, .int 0, .int 0])), (ta, .inr (10, [.int 0, .int 0, .int 0, .int 0, .int 0, .int 0, .ref tr])), (tr, .inl (cI, 4, .inl (fun _ => 0))), (m0, .inr (12, [.int 0, .ref q_args, .ref q_locals, .ref q_many, .ref q_op, .ref q_operand, .ref q_isLooked, .ref q_depths, .ref q_deepest, .int 0, .ref q_waits, .ref q_gone, .ref q_fields, .ref q_sizes, .ref q_rows, .ref q_hasCode, .ref q_counted, .ref q_madeCodes, .ref q_guardsFailed, .ref q_codeCalls, .ref q_value, .ref q_isLike, .ref q_doesVary, .ref q_partMany, .ref q_starts, .ref q_partOp, .ref q_partD, .ref q_partA, .ref q_partB, .ref q_partOf, .ref q_assumed, .int 0, .int 0, .ref q_localKnown, .ref q_localIs, .ref q_placeKnown, .ref q_placeIs, .int 0, .ref q_frameMethod, .ref q_frameAt, .ref q_frameCode, .ref q_frameDepth, .ref q_register, .int 0, .int 0, .int 0, .int 0, .int 0, .int 0, .int 0, .ref q_trap, .ref q_first])), (q_fields, .inl (cI, 8, .inl (fun _ => 0))), (q_sizes, .inl (cI, 4, .inl g2)), (q_trap, .inl (cI, 4, .inl (fun _ => 0)))]) (hS : va_S A s.heap H locs) (hl : lv_has ls 4 [(3, .int 0), (2, .ref m0), (1, .ref h0), (0, .ref bs)]) : W p l e room_1 s m #[Value.ref bs] below meth c H locs 95 323715 (lw_Z below #[Value.ref bs] s) (F0 m 621 ls []) := by
  obtain ⟨hx, hb, hr, hml, hown, hts0, hX, hbl, hlocks, hgv⟩ := id C0
  have hts : ∀ w ∈ zw_law, w.before #[Value.ref bs] s = true := fun w h => hts0 w (zw_law_in w h)
  have hown : s.vm.findClass RL = some m.cls := hown
  have hK := hE.k
  refine lv_aload_n hx hb dL_law_621 rfl (lv_at hl 2 rfl) ?_
  have hPc := hP.sub (ws' := [(h0, .inr (11, [.ref b, .ref d, .ref lo, .ref ma])), (d, .inr (2, [.ref f, .ref le, .ref it])), (f, .inl (cI, 8, .inl (fun _ => 0))), (le, .inl (cI, 4, .inl g)), (ma, .inr (7, [.ref b, .ref d, .ref sm, .ref ta, .ref fr, .ref ha, .int 0, .int 0, .int 0, .int 0])), (ta, .inr (10, [.int 0, .int 0, .int 0, .int 0, .int 0, .int 0, .ref tr])), (tr, .inl (cI, 4, .inl (fun _ => 0))), (b, .inr (0, [.ref pr, .int 0]))]) [0, 2, 3, 4, 5, 6, 7, 1] rfl
  refine vp_callSl (va_Run.run (va_runV (As := []) (rest := []) ⟨hx, hb, hml, hown, hts⟩ (zc_X11_digest l D cI cZ cP cF h0 b d lo ma f le it sm ta fr ha tr pr g hM) (cwV 0 hts zg_law_zc_X11_digest rfl rfl rfl (by decide +kernel) ⟨Nat.le_of_ble_eq_true rfl, Nat.le_of_ble_eq_true rfl⟩) ⟨zBR, va_recv hK hPc (ci := 11) (q0 := 0) rfl rfl, fun U hU hW => ⟨rfl, by rw [hU]; exact hPc, hE.warm hW⟩⟩ rfl rfl hl.1 rfl (lv_room (Nat.le_of_ble_eq_true rfl)) dL_law_622 ⟨Nat.le_of_ble_eq_true rfl, Nat.le_of_ble_eq_true rfl⟩)) (fun r_622_1 h_622_1 => ?_)
  obtain rfl : r_622_1 = (-4484465200796314545) := h_622_1
  refine lv_aload_n hx hb dL_law_625 rfl (lv_at hl 1 rfl) ?_
  have hPc := hP.sub (ws' := [(m0, .inr (12, [.int 0, .ref q_args, .ref q_locals, .ref q_many, .ref q_op, .ref q_operand, .ref q_isLooked, .ref q_depths, .ref q_deepest, .int 0, .ref q_waits, .ref q_gone, .ref q_fields, .ref q_sizes, .ref q_rows, .ref q_hasCode, .ref q_counted, .ref q_madeCodes, .ref q_guardsFailed, .ref q_codeCalls, .ref q_value, .ref q_isLike, .ref q_doesVary, .ref q_partMany, .ref q_starts, .ref q_partOp, .ref q_partD, .ref q_partA, .ref q_partB, .ref q_partOf, .ref q_assumed, .int 0, .int 0, .ref q_localKnown, .ref q_localIs, .ref q_placeKnown, .ref q_placeIs, .int 0, .ref q_frameMethod, .ref q_frameAt, .ref q_frameCode, .ref q_frameDepth, .ref q_register, .int 0, .int 0, .int 0, .int 0, .int 0, .int 0, .int 0, .ref q_trap, .ref q_first])), (q_fields, .inl (cI, 8, .inl (fun _ => 0))), (q_sizes, .inl (cI, 4, .inl g2)), (q_trap, .inl (cI, 4, .inl (fun _ => 0)))]) [8, 9, 10, 11] rfl
  refine vp_callSl (va_Run.run (va_runV (As := []) (rest := [.long (-4484465200796314545)]) ⟨hx, hb, hml, hown, hts⟩ (zc_X12_digest l D cI cZ cP cF m0 q_args q_locals q_many q_op q_operand q_isLooked q_depths q_deepest q_waits q_gone q_fields q_sizes q_rows q_hasCode q_counted q_madeCodes q_guardsFailed q_codeCalls q_value q_isLike q_doesVary q_partMany q_starts q_partOp q_partD q_partA q_partB q_partOf q_assumed q_localKnown q_localIs q_placeKnown q_placeIs q_frameMethod q_frameAt q_frameCode q_frameDepth q_register q_trap q_first g2 hM2) (cwV 0 hts zg_law_zc_X12_digest rfl rfl rfl (by decide +kernel) ⟨Nat.le_of_ble_eq_true rfl, Nat.le_of_ble_eq_true rfl⟩) ⟨zBR, va_recv hK hPc (ci := 12) (q0 := 0) rfl rfl, fun U hU hW => ⟨rfl, by rw [hU]; exact hPc, hE.warm hW⟩⟩ rfl rfl hl.1 rfl (lv_room (Nat.le_of_ble_eq_true rfl)) dL_law_626 ⟨Nat.le_of_ble_eq_true rfl, Nat.le_of_ble_eq_true rfl⟩)) (fun r_626_2 h_626_2 => ?_)
  obtain rfl : r_626_2 = (-4484465200796314545) := h_626_2
  refine W.lcmp hx hb dL_law_629 ?_
  refine lv_if_eq (tgt := 635) hx hb dL_law_630 (by decide) (fun c_630 => ?_) (fun c_630 => absurd (by decide +kernel) c_630)
  exact zl_tail l C0 hA hbA hfin (Nat.le_of_ble_eq_true rfl) (Nat.le_of_ble_eq_true rfl) hS (lv_sub hl [0, 3] rfl)
