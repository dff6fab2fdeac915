def wl_X5_remember_2 (K_79 : CST → Nat → Prop) (Post : CST → Prop) : Nat → CST → Nat → Nat → Int32 → Prop
  | 0, _, _, _, _ => False
  | n_2 + 1, S_2, y2_0, y2_1, x2_3 => ((11 ≤ x2_3) → ((K_79 S_2 y2_0))) ∧ ((¬ (11 ≤ x2_3)) → (((3 ≤ x2_3) → (wp_X2_valueOf S_2 (x2_3 - 3) (fun r7 => cin S_2 28 y2_0 ∧ (((¬ (((cv S_2 282 y2_0 0) : Int32) = 0)) → (cin S_2 28 y2_0 ∧ (cin S_2 29 y2_0 ∧ vp_in x2_3 11 ∧ (((((cv S_2 290 y2_0 (x2_3 : Int32).toNatClampNeg) : Int32) = r7) → (wl_X5_remember_2 K_79 Post n_2 S_2 y2_0 y2_1 (x2_3 + 1))) ∧ ((¬ (((cv S_2 290 y2_0 (x2_3 : Int32).toNatClampNeg) : Int32) = r7)) → (cin S_2 28 y2_0 ∧ (cin S_2 30 y2_0 ∧ vp_in x2_3 11 ∧ (∀ S15 : CST, S15 = cs S_2 300 y2_0 (upd (cv S_2 300 y2_0) (x2_3 : Int32).toNatClampNeg (vp_nar .boolean 0)) → (wl_X5_remember_2 K_79 Post n_2 S15 y2_0 y2_1 (x2_3 + 1)))))))))) ∧ ((((cv S_2 282 y2_0 0) : Int32) = 0) → (cin S_2 28 y2_0 ∧ (cin S_2 29 y2_0 ∧ vp_in x2_3 11 ∧ (∀ S18 : CST, S18 = cs S_2 290 y2_0 (upd (cv S_2 290 y2_0) (x2_3 : Int32).toNatClampNeg r7) → (cin S18 28 y2_0 ∧ (cin S18 30 y2_0 ∧ vp_in x2_3 11 ∧ (∀ S21 : CST, S21 = cs S18 300 y2_0 (upd (cv S18 300 y2_0) (x2_3 : Int32).toNatClampNeg (vp_nar .boolean 1)) → (wl_X5_remember_2 K_79 Post n_2 S21 y2_0 y2_1 (x2_3 + 1))))))))))))) ∧ ((¬ (3 ≤ x2_3)) → (cin S_2 22 y2_1 ∧ (wp_X4_valueOf S_2 y2_1 x2_3 (fun r23 => cin S_2 28 y2_0 ∧ (((¬ (((cv S_2 282 y2_0 0) : Int32) = 0)) → (cin S_2 28 y2_0 ∧ (cin S_2 29 y2_0 ∧ vp_in x2_3 11 ∧ (((((cv S_2 290 y2_0 (x2_3 : Int32).toNatClampNeg) : Int32) = r23) → (wl_X5_remember_2 K_79 Post n_2 S_2 y2_0 y2_1 (x2_3 + 1))) ∧ ((¬ (((cv S_2 290 y2_0 (x2_3 : Int32).toNatClampNeg) : Int32) = r23)) → (cin S_2 28 y2_0 ∧ (cin S_2 30 y2_0 ∧ vp_in x2_3 11 ∧ (∀ S31 : CST, S31 = cs S_2 300 y2_0 (upd (cv S_2 300 y2_0) (x2_3 : Int32).toNatClampNeg (vp_nar .boolean 0)) → (wl_X5_remember_2 K_79 Post n_2 S31 y2_0 y2_1 (x2_3 + 1)))))))))) ∧ ((((cv S_2 282 y2_0 0) : Int32) = 0) → (cin S_2 28 y2_0 ∧ (cin S_2 29 y2_0 ∧ vp_in x2_3 11 ∧ (∀ S34 : CST, S34 = cs S_2 290 y2_0 (upd (cv S_2 290 y2_0) (x2_3 : Int32).toNatClampNeg r23) → (cin S34 28 y2_0 ∧ (cin S34 30 y2_0 ∧ vp_in x2_3 11 ∧ (∀ S37 : CST, S37 = cs S34 300 y2_0 (upd (cv S34 300 y2_0) (x2_3 : Int32).toNatClampNeg (vp_nar .boolean 1)) → (wl_X5_remember_2 K_79 Post n_2 S37 y2_0 y2_1 (x2_3 + 1))))))))))))))))
def wp_X5_remember (S : CST) (i : Nat) (i1 : Nat) (Post : CST → Prop) : Prop :=
  ∃ n_2, wl_X5_remember_2 (fun S_79 y79_0 => cin S_79 28 y79_0 ∧ (cin S_79 28 y79_0 ∧ (∀ S3 : CST, S3 = cs S_79 282 y79_0 (fun _ => (cv S_79 282 y79_0 0) + 1) → (Post S3)))) Post n_2 S i i1 0
def zw_zd_X5_remember_w0 : List Cond := [.fieldLink RX5 26 "TemplateForge$Heat" "counted" "I", .code yX2_valueOf cX2_valueOf 2 (some .int), .fieldLink RX2 9 "TemplateForge$Data" "fields" "[I", .methodLink RX5 36 yX2_valueOf, .instanceMethod yX2_valueOf, .selects RX2 yX2_valueOf yX2_valueOf, .initialized RX2, .fieldLink RX5 9 "TemplateForge$Heat" "first" "[I", .fieldLink RX5 15 "TemplateForge$Heat" "same" "[Z", .code yX4_valueOf cX4_valueOf 2 (some .int), .fieldLink RX4 9 "TemplateForge$Frame" "registers" "[I", .methodLink RX5 30 yX4_valueOf, .instanceMethod yX4_valueOf, .selects RX4 yX4_valueOf yX4_valueOf, .initialized RX4]
def zw_zd_X5_remember : List Cond := .code yX5_remember cX5_remember 5 none :: ((zw_zd_X5_remember_w0) ++ wsX50 ++ wsX20 ++ wsX40)
set_option maxRecDepth 100000 in
theorem zg_zd_X5_remember_zd_X2_valueOf_36_a : GoodIn zw_zd_X5_remember [.methodLink RX5 36 yX2_valueOf, .instanceMethod yX2_valueOf, .selects RX2 yX2_valueOf yX2_valueOf, .initialized RX2] := goodIn_r _ [4, 5, 6, 7] rfl (by decide +kernel)
set_option maxRecDepth 100000 in
theorem zg_zd_X5_remember_zd_X2_valueOf_36_c : GoodIn zw_zd_X5_remember [.code yX2_valueOf cX2_valueOf 2 (some .int)] := goodIn_r _ [2] rfl (by decide +kernel)
set_option maxRecDepth 100000 in
theorem zg_zd_X5_remember_zd_X2_valueOf_36_0 : GoodIn zw_zd_X5_remember zw_zd_X2_valueOf_w0 := goodIn_r _ [3] rfl (by decide +kernel)
theorem zg_zd_X5_remember_zd_X2_valueOf_36 : GoodIn zw_zd_X5_remember (wsV RX5 36 RX2 yX2_valueOf zw_zd_X2_valueOf) := goodIn_app zg_zd_X5_remember_zd_X2_valueOf_36_a (goodIn_ca (a := (zw_zd_X2_valueOf_w0)) (show GoodIn zw_zd_X5_remember (.code yX2_valueOf cX2_valueOf 2 (some .int) :: (zw_zd_X2_valueOf_w0)) from goodIn_app zg_zd_X5_remember_zd_X2_valueOf_36_c (zg_zd_X5_remember_zd_X2_valueOf_36_0)) (fun w h => ⟨(fun _ h => List.mem_cons_of_mem _ (List.mem_append_left _ (List.mem_append_right _ h))) w h, good_of_word (List.all_eq_true.mp zgw_X2 w h)⟩))
set_option maxRecDepth 100000 in
theorem zg_zd_X5_remember_zd_X4_valueOf_30_a : GoodIn zw_zd_X5_remember [.methodLink RX5 30 yX4_valueOf, .instanceMethod yX4_valueOf, .selects RX4 yX4_valueOf yX4_valueOf, .initialized RX4] := goodIn_r _ [12, 13, 14, 15] rfl (by decide +kernel)
set_option maxRecDepth 100000 in
theorem zg_zd_X5_remember_zd_X4_valueOf_30_c : GoodIn zw_zd_X5_remember [.code yX4_valueOf cX4_valueOf 2 (some .int)] := goodIn_r _ [10] rfl (by decide +kernel)
set_option maxRecDepth 100000 in
theorem zg_zd_X5_remember_zd_X4_valueOf_30_0 : GoodIn zw_zd_X5_remember zw_zd_X4_valueOf_w0 := goodIn_r _ [11] rfl (by decide +kernel)
theorem zg_zd_X5_remember_zd_X4_valueOf_30 : GoodIn zw_zd_X5_remember (wsV RX5 30 RX4 yX4_valueOf zw_zd_X4_valueOf) := goodIn_app zg_zd_X5_remember_zd_X4_valueOf_30_a (goodIn_ca (a := (zw_zd_X4_valueOf_w0)) (show GoodIn zw_zd_X5_remember (.code yX4_valueOf cX4_valueOf 2 (some .int) :: (zw_zd_X4_valueOf_w0)) from goodIn_app zg_zd_X5_remember_zd_X4_valueOf_30_c (zg_zd_X5_remember_zd_X4_valueOf_30_0)) (fun w h => ⟨(fun _ h => List.mem_cons_of_mem _ (List.mem_append_right _ h)) w h, good_of_word (List.all_eq_true.mp zgw_X4 w h)⟩))
set_option maxHeartbeats 16000000 in
set_option maxRecDepth 100000 in
theorem zd_X5_remember (l : Launch) (D : va_G) (cI cZ cP cF : Nat) (q : Nat → Nat → Nat) (S : CST) (i : Nat) (i1 : Nat) (sz : Nat) (Post : CST → Prop) (h : wp_X5_remember S i i1 Post) : Met l yX5_remember zw_zd_X5_remember ({ frames := 1, cells := 0, slots := 0, locals := 21 }) (va_Pc [.ref (q 28 i), .ref (q 22 i1), .ref (q 3 0)] (fun U => U.heap.size = sz ∧ va_P D vwCl (cW cI cZ cP cF q S) U.heap ∧ zF D cI cZ cP cF U ∧ va_D (fun _ => True) (cW cI cZ cP cF q S))) (va_Qv (fun S' => Post S') (fun (S' : CST) t => va_P D vwCl (cW cI cZ cP cF q S') t.heap ∧ va_D (va_A (cW cI cZ cP cF q S) sz) (cW cI cZ cP cF q S') ∧ S'.2 = S.2) (va_A (cW cI cZ cP cF q S) sz)) 0 0 (va_A (cW cI cZ cP cF q S) sz) := by
  unfold wp_X5_remember at h
  refine Met.ofW (cc := cX5_remember) (maxL := 5) (ret := none) (by decide) rfl ?_
  intro p e s m args below meth c s₁ B hml hv
  obtain ⟨rfl, hsz, hP, hE, hD0⟩ := hv
  have hx := B.exec
  have hb := B.bytes
  have hr := B.returns
  have hts := atoms_spec (ws := zw_zd_X5_remember) B.pre
  have hown : s.vm.findClass RX5 = some m.cls := findClass_of_methodNamed B.named
  have hlocks := B.notSynchronized
  have hK := hE.k
  subst hsz
  have hD := hD0.self (sz := s.heap.size)
  generalize hAe : va_A (cW cI cZ cP cF q S) s.heap.size = A at hD ⊢
  have hA : ∀ q : Nat, s.heap.size ≤ q → A q := fun q h => by rw [← hAe]; exact Or.inr h
  have hN : S.2 = S.2 := rfl
  have hl := lv_entry ([.ref (q 28 i), .ref (q 22 i1), .ref (q 3 0)]) (n := 5) (Nat.le_of_ble_eq_true rfl)
  rw [lg_entry_eq]
  generalize (lg_sl ([.ref (q 28 i), .ref (q 22 i1), .ref (q 3 0)]) ++ List.replicate (5 - (lg_sl ([.ref (q 28 i), .ref (q 22 i1), .ref (q 3 0)])).length) Slot.unset).toArray = ls at hl ⊢
  have hl : lv_has ls 5 [(0, .ref (q 28 i)), (1, .ref (q 22 i1)), (2, .ref (q 3 0))] := hl
  have key : ∀ (H : Heap) (locs : List Loc), va_P D vwCl (cW cI cZ cP cF q S) H → va_S A s.heap H locs → W p l e (headSpec zw_zd_X5_remember ({ frames := 1, cells := 0, slots := 0, locals := 21 })).room s m ([.ref (q 28 i), .ref (q 22 i1), .ref (q 3 0)] : List Value).toArray below meth c H locs 0 0 (MQ below (va_Qv (fun S' => Post S') (fun (S' : CST) t => va_P D vwCl (cW cI cZ cP cF q S') t.heap ∧ va_D A (cW cI cZ cP cF q S') ∧ S'.2 = S.2) A) ([.ref (q 28 i), .ref (q 22 i1), .ref (q 3 0)] : List Value).toArray s 0 0 A) (F0 m 0 ls []) := by
    intro H locs hP hS
    refine lv_iconst (v := 0) hx hb dX5_remember_0 (by decide) ?_
    refine lv_istore_n (lv' := [(3, .int 0), (0, .ref (q 28 i)), (1, .ref (q 22 i1)), (2, .ref (q 3 0))]) hx hb dX5_remember_1 rfl hl (by decide) rfl (fun ls hl => ?_)
    have EX_2_79 : ∀ (S_79 : CST) (y79_0 : Nat) (H : Heap) (locs : List Loc) (ls : Array Slot), (cin S_79 28 y79_0 ∧ (cin S_79 28 y79_0 ∧ (∀ S3 : CST, S3 = cs S_79 282 y79_0 (fun _ => (cv S_79 282 y79_0 0) + 1) → (Post S3)))) → va_P D vwCl (cW cI cZ cP cF q S_79) H → va_D A (cW cI cZ cP cF q S_79) → va_S A s.heap H locs → S_79.2 = S.2 → lv_has ls 5 [(0, .ref (q 28 y79_0))] → W p l e (headSpec zw_zd_X5_remember ({ frames := 1, cells := 0, slots := 0, locals := 21 })).room s m ([.ref (q 28 i), .ref (q 22 i1), .ref (q 3 0)] : List Value).toArray below meth c H locs 0 0 (MQ below (va_Qv (fun S' => Post S') (fun (S' : CST) t => va_P D vwCl (cW cI cZ cP cF q S') t.heap ∧ va_D A (cW cI cZ cP cF q S') ∧ S'.2 = S.2) A) ([.ref (q 28 i), .ref (q 22 i1), .ref (q 3 0)] : List Value).toArray s 0 0 A) (F0 m 79 ls []) := by
      intro S_79 y79_0 H locs ls h hP hD hS hN hl
      refine lv_aload_n hx hb dX5_remember_79 rfl (lv_at hl 0 rfl) ?_
      refine lv_dup hx hb dX5_remember_80 rfl ?_
      have hi_1 := h.1
      have h := h.2
      obtain ⟨p_1, hp_1⟩ := cget_28 cI cZ cP cF q S_79 hi_1
      refine va_get (D := D) (ci := 5) (v := .int (cv S_79 282 y79_0 0)) (C := RX5) (T := TX5) (N := 9) hx hb hts (fun _ h => List.mem_cons_of_mem _ (List.mem_append_left _ (List.mem_append_left _ (List.mem_append_right _ h)))) hown hK hP p_1 hp_1 rfl 2 (by decide) (hts (.fieldLink RX5 26 "TemplateForge$Heat" "counted" "I") (List.mem_of_getElem? (i := 1) rfl)) (fun _ h9 => h9) rfl dX5_remember_81 ?_
      refine lv_iconst (v := 1) hx hb dX5_remember_84 (by decide) ?_
      refine lv_iadd hx hb dX5_remember_85 ?_
      have hi_2 := h.1
      have h := h.2
      obtain ⟨p_2, hp_2⟩ := cget_28 cI cZ cP cF q S_79 hi_2
      have hD0_2 := hD
      refine va_put (D := D) (ci := 5) (v := .int ((cv S_79 282 y79_0 0) + 1)) (ty := .int) (C := RX5) (T := TX5) (N := 9) hx hb hts (fun _ h => List.mem_cons_of_mem _ (List.mem_append_left _ (List.mem_append_left _ (List.mem_append_right _ h)))) tyX5 tyX5_ok nmX5 hown hK hP hD hS p_2 hp_2 rfl 2 (by decide) (hts (.fieldLink RX5 26 "TemplateForge$Heat" "counted" "I") (List.mem_of_getElem? (i := 1) rfl)) (fun _ h9 => h9) rfl (by decide +kernel) rfl rfl (Nat.le_of_ble_eq_true rfl) dX5_remember_86 (fun H locs hP hD hS => ?_)
      obtain ⟨S3, eS3⟩ : ∃ z, z = cs S_79 282 y79_0 (fun _ => (cv S_79 282 y79_0 0) + 1) := ⟨_, rfl⟩
      have hP : va_P D vwCl (cW cI cZ cP cF q S3) H := by rw [eS3, ← cW_put (k := 282) (κ := 28) (i := y79_0) (g := (fun _ => (cv S_79 282 y79_0 0) + 1)) rfl hD0_2 hp_2 hi_2, cput_282]; exact hP
      have hD : va_D A (cW cI cZ cP cF q S3) := by rw [eS3, ← cW_put (k := 282) (κ := 28) (i := y79_0) (g := (fun _ => (cv S_79 282 y79_0 0) + 1)) rfl hD0_2 hp_2 hi_2, cput_282]; exact hD
      have hN : S3.2 = S.2 := by rw [eS3]; exact hN
      have h := h S3 eS3
      exact W.vret hx hb hr (fun t ht hW => ⟨⟨S3, rfl, h, by rw [ht]; exact hP, hD, hN⟩, hS.F ht⟩) hS.2.2 dX5_remember_89
    have LP_2 : ∀ (n_2 : Nat), ∀ (S_2 : CST) (y2_0 : Nat) (y2_1 : Nat) (x2_3 : Int32) (H : Heap) (locs : List Loc) (ls : Array Slot), wl_X5_remember_2 (fun S_79 y79_0 => cin S_79 28 y79_0 ∧ (cin S_79 28 y79_0 ∧ (∀ S3 : CST, S3 = cs S_79 282 y79_0 (fun _ => (cv S_79 282 y79_0 0) + 1) → (Post S3)))) Post n_2 S_2 y2_0 y2_1 x2_3 → va_P D vwCl (cW cI cZ cP cF q S_2) H → va_D A (cW cI cZ cP cF q S_2) → va_S A s.heap H locs → S_2.2 = S.2 → lv_has ls 5 [(0, .ref (q 28 y2_0)), (1, .ref (q 22 y2_1)), (2, .ref (q 3 0)), (3, .int x2_3)] → W p l e (headSpec zw_zd_X5_remember ({ frames := 1, cells := 0, slots := 0, locals := 21 })).room s m ([.ref (q 28 i), .ref (q 22 i1), .ref (q 3 0)] : List Value).toArray below meth c H locs 0 0 (MQ below (va_Qv (fun S' => Post S') (fun (S' : CST) t => va_P D vwCl (cW cI cZ cP cF q S') t.heap ∧ va_D A (cW cI cZ cP cF q S') ∧ S'.2 = S.2) A) ([.ref (q 28 i), .ref (q 22 i1), .ref (q 3 0)] : List Value).toArray s 0 0 A) (F0 m 2 ls []) := by
      intro n_2
      induction n_2 with
      | zero =>
        intro S_2 y2_0 y2_1 x2_3 H locs ls h hP hD hS hN hl
        exact False.elim h
      | succ n_2 ih_2 =>
        intro S_2 y2_0 y2_1 x2_3 H locs ls h hP hD hS hN hl
        unfold wl_X5_remember_2 at h
        refine lv_iload_n hx hb dX5_remember_2 rfl (lv_at hl 3 rfl) ?_
        refine lv_bipush (v := 11) hx hb dX5_remember_3 (by decide) ?_
        refine lv_icmp_ge (tgt := 79) hx hb dX5_remember_5 (by decide) (fun c_4 => ?_) (fun c_4 => ?_)
        · have h := h.1 c_4
          exact EX_2_79  S_2 y2_0 H locs _ h hP hD hS hN (lv_sub hl [0] rfl)
        · have h := h.2 c_4
          refine lv_iload_n hx hb dX5_remember_8 rfl (lv_at hl 3 rfl) ?_
          refine lv_iconst (v := 3) hx hb dX5_remember_9 (by decide) ?_
          refine lv_icmp_ge (tgt := 21) hx hb dX5_remember_10 (by decide) (fun c_5 => ?_) (fun c_5 => ?_)
          · have h := h.1 c_5
            refine lv_aload_n hx hb dX5_remember_21 rfl (lv_at hl 2 rfl) ?_
            refine lv_iload_n hx hb dX5_remember_22 rfl (lv_at hl 3 rfl) ?_
            refine lv_iconst (v := 3) hx hb dX5_remember_23 (by decide) ?_
            refine lv_isub hx hb dX5_remember_24 ?_
            obtain ⟨p_6, hp_6⟩ := cget_3 cI cZ cP cF q S_2
            have hi_6 : cin S_2 3 0 := Or.inl ⟨by decide, rfl⟩
            refine vp_callSi (va_Run.run (va_runV (As := [.int (x2_3 - 3)]) (rest := []) ⟨hx, hb, hml, hown, hts⟩ (zd_X2_valueOf l D cI cZ cP cF q S_2 (x2_3 - 3)  _ h) (cwV 1 hts zg_zd_X5_remember_zd_X2_valueOf_36 rfl rfl rfl (by decide +kernel) ⟨Nat.le_of_ble_eq_true rfl, Nat.le_of_ble_eq_true rfl⟩) ⟨zCR, va_recv hK hP (ci := 2) (q0 := p_6) rfl hp_6, fun U hU hW => ⟨rfl, by rw [hU]; exact hP, hE.warm hW⟩⟩ rfl rfl hl.1 rfl (lv_room (Nat.le_of_ble_eq_true rfl)) dX5_remember_25 ⟨Nat.le_of_ble_eq_true rfl, Nat.le_of_ble_eq_true rfl⟩)) (fun r7 h => ?_)
            refine lv_istore (lv' := [(4, .int r7), (0, .ref (q 28 y2_0)), (1, .ref (q 22 y2_1)), (2, .ref (q 3 0)), (3, .int x2_3)]) hx hb dX5_remember_28 hl (by decide) rfl (fun ls hl => ?_)
            refine lv_aload_n hx hb dX5_remember_30 rfl (lv_at hl 1 rfl) ?_
            have hi_8 := h.1
            have h := h.2
            obtain ⟨p_8, hp_8⟩ := cget_28 cI cZ cP cF q S_2 hi_8
            refine va_get (D := D) (ci := 5) (v := .int (cv S_2 282 y2_0 0)) (C := RX5) (T := TX5) (N := 9) hx hb hts (fun _ h => List.mem_cons_of_mem _ (List.mem_append_left _ (List.mem_append_left _ (List.mem_append_right _ h)))) hown hK hP p_8 hp_8 rfl 2 (by decide) (hts (.fieldLink RX5 26 "TemplateForge$Heat" "counted" "I") (List.mem_of_getElem? (i := 1) rfl)) (fun _ h9 => h9) rfl dX5_remember_31 ?_
            refine lv_if_ne (tgt := 55) hx hb dX5_remember_34 (by decide) (fun c_9 => ?_) (fun c_9 => ?_)
            · have h := h.1 c_9
              refine lv_aload_n hx hb dX5_remember_55 rfl (lv_at hl 1 rfl) ?_
              have hi_10 := h.1
              have h := h.2
              obtain ⟨p_10, hp_10⟩ := cget_28 cI cZ cP cF q S_2 hi_10
              refine va_get (D := D) (ci := 5) (v := .ref (q 29 y2_0)) (C := RX5) (T := TX5) (N := 9) hx hb hts (fun _ h => List.mem_cons_of_mem _ (List.mem_append_left _ (List.mem_append_left _ (List.mem_append_right _ h)))) hown hK hP p_10 hp_10 rfl 6 (by decide) (hts (.fieldLink RX5 9 "TemplateForge$Heat" "first" "[I") (List.mem_of_getElem? (i := 8) rfl)) (fun _ h9 => h9) rfl dX5_remember_56 ?_
              refine lv_iload_n hx hb dX5_remember_59 rfl (lv_at hl 4 rfl) ?_
              have hi_11 := h.1
              have h := h.2
              obtain ⟨p_11, hp_11⟩ := cget_29 cI cZ cP cF q S_2 hi_11
              have hin_11 := h.1
              have h := h.2
              refine va_iald hx hb hK hP p_11 0 hp_11 rfl hin_11 dX5_remember_60 ?_
              refine lv_iload hx hb dX5_remember_61 (lv_at hl 0 rfl) ?_
              refine lv_icmp_eq (tgt := 73) hx hb dX5_remember_63 (by decide) (fun c_12 => ?_) (fun c_12 => ?_)
              · have h := h.1 c_12
                refine lv_iinc (v := x2_3 + 1) (lv' := [(3, .int (x2_3 + 1)), (4, .int r7), (0, .ref (q 28 y2_0)), (1, .ref (q 22 y2_1)), (2, .ref (q 3 0))]) hx hb dX5_remember_73 hl (k := 4) rfl rfl (by decide) rfl (fun ls hl => ?_)
                refine lv_goto (tgt := 2) hx hb dX5_remember_76 (by decide) ?_
                exact ih_2  S_2 y2_0 y2_1 (x2_3 + 1) H locs _ h hP hD hS hN (lv_sub hl [2, 3, 4, 0] rfl)
              · have h := h.2 c_12
                refine lv_aload_n hx hb dX5_remember_66 rfl (lv_at hl 1 rfl) ?_
                have hi_13 := h.1
                have h := h.2
                obtain ⟨p_13, hp_13⟩ := cget_28 cI cZ cP cF q S_2 hi_13
                refine va_get (D := D) (ci := 5) (v := .ref (q 30 y2_0)) (C := RX5) (T := TX5) (N := 9) hx hb hts (fun _ h => List.mem_cons_of_mem _ (List.mem_append_left _ (List.mem_append_left _ (List.mem_append_right _ h)))) hown hK hP p_13 hp_13 rfl 7 (by decide) (hts (.fieldLink RX5 15 "TemplateForge$Heat" "same" "[Z") (List.mem_of_getElem? (i := 9) rfl)) (fun _ h9 => h9) rfl dX5_remember_67 ?_
                refine lv_iload_n hx hb dX5_remember_70 rfl (lv_at hl 4 rfl) ?_
                refine lv_iconst (v := 0) hx hb dX5_remember_71 (by decide) ?_
                have hi_14 := h.1
                have h := h.2
                obtain ⟨p_14, hp_14⟩ := cget_30 cI cZ cP cF q S_2 hi_14
                have hin_14 := h.1
                have h := h.2
                have hD0_14 := hD
                refine va_zast hx hb hK hP hD hS p_14 1 hp_14 rfl hin_14 dX5_remember_72 (fun H locs hP hD hS => ?_)
                obtain ⟨S15, eS15⟩ : ∃ z, z = cs S_2 300 y2_0 (upd (cv S_2 300 y2_0) (x2_3 : Int32).toNatClampNeg (vp_nar .boolean 0)) := ⟨_, rfl⟩
                have hP : va_P D vwCl (cW cI cZ cP cF q S15) H := by rw [eS15, ← cW_put (k := 300) (κ := 30) (i := y2_0) (g := (upd (cv S_2 300 y2_0) (x2_3 : Int32).toNatClampNeg (vp_nar .boolean 0))) rfl hD0_14 hp_14 hi_14, cput_300]; exact hP
                have hD : va_D A (cW cI cZ cP cF q S15) := by rw [eS15, ← cW_put (k := 300) (κ := 30) (i := y2_0) (g := (upd (cv S_2 300 y2_0) (x2_3 : Int32).toNatClampNeg (vp_nar .boolean 0))) rfl hD0_14 hp_14 hi_14, cput_300]; exact hD
                have hN : S15.2 = S.2 := by rw [eS15]; exact hN
                have h := h S15 eS15
                refine lv_iinc (v := x2_3 + 1) (lv' := [(3, .int (x2_3 + 1)), (4, .int r7), (0, .ref (q 28 y2_0)), (1, .ref (q 22 y2_1)), (2, .ref (q 3 0))]) hx hb dX5_remember_73 hl (k := 4) rfl rfl (by decide) rfl (fun ls hl => ?_)
                refine lv_goto (tgt := 2) hx hb dX5_remember_76 (by decide) ?_
                exact ih_2  S15 y2_0 y2_1 (x2_3 + 1) H locs _ h hP hD hS hN (lv_sub hl [2, 3, 4, 0] rfl)
            · have h := h.2 c_9
              refine lv_aload_n hx hb dX5_remember_37 rfl (lv_at hl 1 rfl) ?_
              have hi_16 := h.1
              have h := h.2
              obtain ⟨p_16, hp_16⟩ := cget_28 cI cZ cP cF q S_2 hi_16
              refine va_get (D := D) (ci := 5) (v := .ref (q 29 y2_0)) (C := RX5) (T := TX5) (N := 9) hx hb hts (fun _ h => List.mem_cons_of_mem _ (List.mem_append_left _ (List.mem_append_left _ (List.mem_append_right _ h)))) hown hK hP p_16 hp_16 rfl 6 (by decide) (hts (.fieldLink RX5 9 "TemplateForge$Heat" "first" "[I") (List.mem_of_getElem? (i := 8) rfl)) (fun _ h9 => h9) rfl dX5_remember_38 ?_
              refine lv_iload_n hx hb dX5_remember_41 rfl (lv_at hl 4 rfl) ?_
              refine lv_iload hx hb dX5_remember_42 (lv_at hl 0 rfl) ?_
              have hi_17 := h.1
              have h := h.2
              obtain ⟨p_17, hp_17⟩ := cget_29 cI cZ cP cF q S_2 hi_17
              have hin_17 := h.1
              have h := h.2
              have hD0_17 := hD
              refine va_iast hx hb hK hP hD hS p_17 0 hp_17 rfl hin_17 dX5_remember_44 (fun H locs hP hD hS => ?_)
              obtain ⟨S18, eS18⟩ : ∃ z, z = cs S_2 290 y2_0 (upd (cv S_2 290 y2_0) (x2_3 : Int32).toNatClampNeg r7) := ⟨_, rfl⟩
              have hP : va_P D vwCl (cW cI cZ cP cF q S18) H := by rw [eS18, ← cW_put (k := 290) (κ := 29) (i := y2_0) (g := (upd (cv S_2 290 y2_0) (x2_3 : Int32).toNatClampNeg r7)) rfl hD0_17 hp_17 hi_17, cput_290]; exact hP
              have hD : va_D A (cW cI cZ cP cF q S18) := by rw [eS18, ← cW_put (k := 290) (κ := 29) (i := y2_0) (g := (upd (cv S_2 290 y2_0) (x2_3 : Int32).toNatClampNeg r7)) rfl hD0_17 hp_17 hi_17, cput_290]; exact hD
              have hN : S18.2 = S.2 := by rw [eS18]; exact hN
              have h := h S18 eS18
              refine lv_aload_n hx hb dX5_remember_45 rfl (lv_at hl 1 rfl) ?_
              have hi_19 := h.1
              have h := h.2
              obtain ⟨p_19, hp_19⟩ := cget_28 cI cZ cP cF q S18 hi_19
              refine va_get (D := D) (ci := 5) (v := .ref (q 30 y2_0)) (C := RX5) (T := TX5) (N := 9) hx hb hts (fun _ h => List.mem_cons_of_mem _ (List.mem_append_left _ (List.mem_append_left _ (List.mem_append_right _ h)))) hown hK hP p_19 hp_19 rfl 7 (by decide) (hts (.fieldLink RX5 15 "TemplateForge$Heat" "same" "[Z") (List.mem_of_getElem? (i := 9) rfl)) (fun _ h9 => h9) rfl dX5_remember_46 ?_
              refine lv_iload_n hx hb dX5_remember_49 rfl (lv_at hl 4 rfl) ?_
              refine lv_iconst (v := 1) hx hb dX5_remember_50 (by decide) ?_
              have hi_20 := h.1
              have h := h.2
              obtain ⟨p_20, hp_20⟩ := cget_30 cI cZ cP cF q S18 hi_20
              have hin_20 := h.1
              have h := h.2
              have hD0_20 := hD
              refine va_zast hx hb hK hP hD hS p_20 1 hp_20 rfl hin_20 dX5_remember_51 (fun H locs hP hD hS => ?_)
              obtain ⟨S21, eS21⟩ : ∃ z, z = cs S18 300 y2_0 (upd (cv S18 300 y2_0) (x2_3 : Int32).toNatClampNeg (vp_nar .boolean 1)) := ⟨_, rfl⟩
              have hP : va_P D vwCl (cW cI cZ cP cF q S21) H := by rw [eS21, ← cW_put (k := 300) (κ := 30) (i := y2_0) (g := (upd (cv S18 300 y2_0) (x2_3 : Int32).toNatClampNeg (vp_nar .boolean 1))) rfl hD0_20 hp_20 hi_20, cput_300]; exact hP
              have hD : va_D A (cW cI cZ cP cF q S21) := by rw [eS21, ← cW_put (k := 300) (κ := 30) (i := y2_0) (g := (upd (cv S18 300 y2_0) (x2_3 : Int32).toNatClampNeg (vp_nar .boolean 1))) rfl hD0_20 hp_20 hi_20, cput_300]; exact hD
              have hN : S21.2 = S.2 := by rw [eS21]; exact hN
              have h := h S21 eS21
              refine lv_goto (tgt := 73) hx hb dX5_remember_52 (by decide) ?_
              refine lv_iinc (v := x2_3 + 1) (lv' := [(3, .int (x2_3 + 1)), (4, .int r7), (0, .ref (q 28 y2_0)), (1, .ref (q 22 y2_1)), (2, .ref (q 3 0))]) hx hb dX5_remember_73 hl (k := 4) rfl rfl (by decide) rfl (fun ls hl => ?_)
              refine lv_goto (tgt := 2) hx hb dX5_remember_76 (by decide) ?_
              exact ih_2  S21 y2_0 y2_1 (x2_3 + 1) H locs _ h hP hD hS hN (lv_sub hl [2, 3, 4, 0] rfl)
          · have h := h.2 c_5
            refine lv_aload_n hx hb dX5_remember_13 rfl (lv_at hl 1 rfl) ?_
            refine lv_iload_n hx hb dX5_remember_14 rfl (lv_at hl 3 rfl) ?_
            have hi_22 := h.1
            have h := h.2
            obtain ⟨p_22, hp_22⟩ := cget_22 cI cZ cP cF q S_2 hi_22
            refine vp_callSi (va_Run.run (va_runV (As := [.int x2_3]) (rest := []) ⟨hx, hb, hml, hown, hts⟩ (zd_X4_valueOf l D cI cZ cP cF q S_2 y2_1 x2_3  _ h) (cwV 1 hts zg_zd_X5_remember_zd_X4_valueOf_30 rfl rfl rfl (by decide +kernel) ⟨Nat.le_of_ble_eq_true rfl, Nat.le_of_ble_eq_true rfl⟩) ⟨zCR, va_recv hK hP (ci := 4) (q0 := p_22) rfl hp_22, fun U hU hW => ⟨rfl, by rw [hU]; exact hP, hE.warm hW⟩⟩ rfl rfl hl.1 rfl (lv_room (Nat.le_of_ble_eq_true rfl)) dX5_remember_15 ⟨Nat.le_of_ble_eq_true rfl, Nat.le_of_ble_eq_true rfl⟩)) (fun r23 h => ?_)
            refine lv_goto (tgt := 28) hx hb dX5_remember_18 (by decide) ?_
            refine lv_istore (lv' := [(4, .int r23), (0, .ref (q 28 y2_0)), (1, .ref (q 22 y2_1)), (2, .ref (q 3 0)), (3, .int x2_3)]) hx hb dX5_remember_28 hl (by decide) rfl (fun ls hl => ?_)
            refine lv_aload_n hx hb dX5_remember_30 rfl (lv_at hl 1 rfl) ?_
            have hi_24 := h.1
            have h := h.2
            obtain ⟨p_24, hp_24⟩ := cget_28 cI cZ cP cF q S_2 hi_24
            refine va_get (D := D) (ci := 5) (v := .int (cv S_2 282 y2_0 0)) (C := RX5) (T := TX5) (N := 9) hx hb hts (fun _ h => List.mem_cons_of_mem _ (List.mem_append_left _ (List.mem_append_left _ (List.mem_append_right _ h)))) hown hK hP p_24 hp_24 rfl 2 (by decide) (hts (.fieldLink RX5 26 "TemplateForge$Heat" "counted" "I") (List.mem_of_getElem? (i := 1) rfl)) (fun _ h9 => h9) rfl dX5_remember_31 ?_
            refine lv_if_ne (tgt := 55) hx hb dX5_remember_34 (by decide) (fun c_25 => ?_) (fun c_25 => ?_)
            · have h := h.1 c_25
              refine lv_aload_n hx hb dX5_remember_55 rfl (lv_at hl 1 rfl) ?_
              have hi_26 := h.1
              have h := h.2
              obtain ⟨p_26, hp_26⟩ := cget_28 cI cZ cP cF q S_2 hi_26
              refine va_get (D := D) (ci := 5) (v := .ref (q 29 y2_0)) (C := RX5) (T := TX5) (N := 9) hx hb hts (fun _ h => List.mem_cons_of_mem _ (List.mem_append_left _ (List.mem_append_left _ (List.mem_append_right _ h)))) hown hK hP p_26 hp_26 rfl 6 (by decide) (hts (.fieldLink RX5 9 "TemplateForge$Heat" "first" "[I") (List.mem_of_getElem? (i := 8) rfl)) (fun _ h9 => h9) rfl dX5_remember_56 ?_
              refine lv_iload_n hx hb dX5_remember_59 rfl (lv_at hl 4 rfl) ?_
              have hi_27 := h.1
              have h := h.2
              obtain ⟨p_27, hp_27⟩ := cget_29 cI cZ cP cF q S_2 hi_27
              have hin_27 := h.1
              have h := h.2
              refine va_iald hx hb hK hP p_27 0 hp_27 rfl hin_27 dX5_remember_60 ?_
              refine lv_iload hx hb dX5_remember_61 (lv_at hl 0 rfl) ?_
              refine lv_icmp_eq (tgt := 73) hx hb dX5_remember_63 (by decide) (fun c_28 => ?_) (fun c_28 => ?_)
              · have h := h.1 c_28
                refine lv_iinc (v := x2_3 + 1) (lv' := [(3, .int (x2_3 + 1)), (4, .int r23), (0, .ref (q 28 y2_0)), (1, .ref (q 22 y2_1)), (2, .ref (q 3 0))]) hx hb dX5_remember_73 hl (k := 4) rfl rfl (by decide) rfl (fun ls hl => ?_)
                refine lv_goto (tgt := 2) hx hb dX5_remember_76 (by decide) ?_
                exact ih_2  S_2 y2_0 y2_1 (x2_3 + 1) H locs _ h hP hD hS hN (lv_sub hl [2, 3, 4, 0] rfl)
              · have h := h.2 c_28
                refine lv_aload_n hx hb dX5_remember_66 rfl (lv_at hl 1 rfl) ?_
                have hi_29 := h.1
                have h := h.2
                obtain ⟨p_29, hp_29⟩ := cget_28 cI cZ cP cF q S_2 hi_29
                refine va_get (D := D) (ci := 5) (v := .ref (q 30 y2_0)) (C := RX5) (T := TX5) (N := 9) hx hb hts (fun _ h => List.mem_cons_of_mem _ (List.mem_append_left _ (List.mem_append_left _ (List.mem_append_right _ h)))) hown hK hP p_29 hp_29 rfl 7 (by decide) (hts (.fieldLink RX5 15 "TemplateForge$Heat" "same" "[Z") (List.mem_of_getElem? (i := 9) rfl)) (fun _ h9 => h9) rfl dX5_remember_67 ?_
                refine lv_iload_n hx hb dX5_remember_70 rfl (lv_at hl 4 rfl) ?_
                refine lv_iconst (v := 0) hx hb dX5_remember_71 (by decide) ?_
                have hi_30 := h.1
                have h := h.2
                obtain ⟨p_30, hp_30⟩ := cget_30 cI cZ cP cF q S_2 hi_30
                have hin_30 := h.1
                have h := h.2
                have hD0_30 := hD
                refine va_zast hx hb hK hP hD hS p_30 1 hp_30 rfl hin_30 dX5_remember_72 (fun H locs hP hD hS => ?_)
                obtain ⟨S31, eS31⟩ : ∃ z, z = cs S_2 300 y2_0 (upd (cv S_2 300 y2_0) (x2_3 : Int32).toNatClampNeg (vp_nar .boolean 0)) := ⟨_, rfl⟩
                have hP : va_P D vwCl (cW cI cZ cP cF q S31) H := by rw [eS31, ← cW_put (k := 300) (κ := 30) (i := y2_0) (g := (upd (cv S_2 300 y2_0) (x2_3 : Int32).toNatClampNeg (vp_nar .boolean 0))) rfl hD0_30 hp_30 hi_30, cput_300]; exact hP
                have hD : va_D A (cW cI cZ cP cF q S31) := by rw [eS31, ← cW_put (k := 300) (κ := 30) (i := y2_0) (g := (upd (cv S_2 300 y2_0) (x2_3 : Int32).toNatClampNeg (vp_nar .boolean 0))) rfl hD0_30 hp_30 hi_30, cput_300]; exact hD
                have hN : S31.2 = S.2 := by rw [eS31]; exact hN
                have h := h S31 eS31
                refine lv_iinc (v := x2_3 + 1) (lv' := [(3, .int (x2_3 + 1)), (4, .int r23), (0, .ref (q 28 y2_0)), (1, .ref (q 22 y2_1)), (2, .ref (q 3 0))]) hx hb dX5_remember_73 hl (k := 4) rfl rfl (by decide) rfl (fun ls hl => ?_)
                refine lv_goto (tgt := 2) hx hb dX5_remember_76 (by decide) ?_
                exact ih_2  S31 y2_0 y2_1 (x2_3 + 1) H locs _ h hP hD hS hN (lv_sub hl [2, 3, 4, 0] rfl)
            · have h := h.2 c_25
              refine lv_aload_n hx hb dX5_remember_37 rfl (lv_at hl 1 rfl) ?_
              have hi_32 := h.1
              have h := h.2
              obtain ⟨p_32, hp_32⟩ := cget_28 cI cZ cP cF q S_2 hi_32
              refine va_get (D := D) (ci := 5) (v := .ref (q 29 y2_0)) (C := RX5) (T := TX5) (N := 9) hx hb hts (fun _ h => List.mem_cons_of_mem _ (List.mem_append_left _ (List.mem_append_left _ (List.mem_append_right _ h)))) hown hK hP p_32 hp_32 rfl 6 (by decide) (hts (.fieldLink RX5 9 "TemplateForge$Heat" "first" "[I") (List.mem_of_getElem? (i := 8) rfl)) (fun _ h9 => h9) rfl dX5_remember_38 ?_
              refine lv_iload_n hx hb dX5_remember_41 rfl (lv_at hl 4 rfl) ?_
              refine lv_iload hx hb dX5_remember_42 (lv_at hl 0 rfl) ?_
              have hi_33 := h.1
              have h := h.2
              obtain ⟨p_33, hp_33⟩ := cget_29 cI cZ cP cF q S_2 hi_33
              have hin_33 := h.1
              have h := h.2
              have hD0_33 := hD
              refine va_iast hx hb hK hP hD hS p_33 0 hp_33 rfl hin_33 dX5_remember_44 (fun H locs hP hD hS => ?_)
              obtain ⟨S34, eS34⟩ : ∃ z, z = cs S_2 290 y2_0 (upd (cv S_2 290 y2_0) (x2_3 : Int32).toNatClampNeg r23) := ⟨_, rfl⟩
              have hP : va_P D vwCl (cW cI cZ cP cF q S34) H := by rw [eS34, ← cW_put (k := 290) (κ := 29) (i := y2_0) (g := (upd (cv S_2 290 y2_0) (x2_3 : Int32).toNatClampNeg r23)) rfl hD0_33 hp_33 hi_33, cput_290]; exact hP
              have hD : va_D A (cW cI cZ cP cF q S34) := by rw [eS34, ← cW_put (k := 290) (κ := 29) (i := y2_0) (g := (upd (cv S_2 290 y2_0) (x2_3 : Int32).toNatClampNeg r23)) rfl hD0_33 hp_33 hi_33, cput_290]; exact hD
              have hN : S34.2 = S.2 := by rw [eS34]; exact hN
              have h := h S34 eS34
              refine lv_aload_n hx hb dX5_remember_45 rfl (lv_at hl 1 rfl) ?_
              have hi_35 := h.1
              have h := h.2
              obtain ⟨p_35, hp_35⟩ := cget_28 cI cZ cP cF q S34 hi_35
              refine va_get (D := D) (ci := 5) (v := .ref (q 30 y2_0)) (C := RX5) (T := TX5) (N := 9) hx hb hts (fun _ h => List.mem_cons_of_mem _ (List.mem_append_left _ (List.mem_append_left _ (List.mem_append_right _ h)))) hown hK hP p_35 hp_35 rfl 7 (by decide) (hts (.fieldLink RX5 15 "TemplateForge$Heat" "same" "[Z") (List.mem_of_getElem? (i := 9) rfl)) (fun _ h9 => h9) rfl dX5_remember_46 ?_
              refine lv_iload_n hx hb dX5_remember_49 rfl (lv_at hl 4 rfl) ?_
              refine lv_iconst (v := 1) hx hb dX5_remember_50 (by decide) ?_
              have hi_36 := h.1
              have h := h.2
              obtain ⟨p_36, hp_36⟩ := cget_30 cI cZ cP cF q S34 hi_36
              have hin_36 := h.1
              have h := h.2
              have hD0_36 := hD
              refine va_zast hx hb hK hP hD hS p_36 1 hp_36 rfl hin_36 dX5_remember_51 (fun H locs hP hD hS => ?_)
              obtain ⟨S37, eS37⟩ : ∃ z, z = cs S34 300 y2_0 (upd (cv S34 300 y2_0) (x2_3 : Int32).toNatClampNeg (vp_nar .boolean 1)) := ⟨_, rfl⟩
              have hP : va_P D vwCl (cW cI cZ cP cF q S37) H := by rw [eS37, ← cW_put (k := 300) (κ := 30) (i := y2_0) (g := (upd (cv S34 300 y2_0) (x2_3 : Int32).toNatClampNeg (vp_nar .boolean 1))) rfl hD0_36 hp_36 hi_36, cput_300]; exact hP
              have hD : va_D A (cW cI cZ cP cF q S37) := by rw [eS37, ← cW_put (k := 300) (κ := 30) (i := y2_0) (g := (upd (cv S34 300 y2_0) (x2_3 : Int32).toNatClampNeg (vp_nar .boolean 1))) rfl hD0_36 hp_36 hi_36, cput_300]; exact hD
              have hN : S37.2 = S.2 := by rw [eS37]; exact hN
              have h := h S37 eS37
              refine lv_goto (tgt := 73) hx hb dX5_remember_52 (by decide) ?_
              refine lv_iinc (v := x2_3 + 1) (lv' := [(3, .int (x2_3 + 1)), (4, .int r23), (0, .ref (q 28 y2_0)), (1, .ref (q 22 y2_1)), (2, .ref (q 3 0))]) hx hb dX5_remember_73 hl (k := 4) rfl rfl (by decide) rfl (fun ls hl => ?_)
              refine lv_goto (tgt := 2) hx hb dX5_remember_76 (by decide) ?_
              exact ih_2  S37 y2_0 y2_1 (x2_3 + 1) H locs _ h hP hD hS hN (lv_sub hl [2, 3, 4, 0] rfl)
    obtain ⟨n_2, h⟩ := h
    exact LP_2 n_2 S i i1 0 H locs _ h hP hD hS hN (lv_sub hl [1, 2, 3, 0] rfl)
  exact key _ _ hP va_S.rf

def wl_X6_leastWaiting_2 (S : CST) (K_25 : Prop) (K_17 : Int32 → Prop) (Post : Int32 → Prop) : Nat → Int32 → Prop
  | 0, _ => False
  | n_2 + 1, x2_1 => ((60 ≤ x2_1) → ((K_25 ))) ∧ ((¬ (60 ≤ x2_1)) → (vp_in x2_1 60 ∧ (((((cv S 110 0 (x2_1 : Int32).toNatClampNeg) : Int32) = 0) → (wl_X6_leastWaiting_2 S K_25 K_17 Post n_2 (x2_1 + 1))) ∧ ((¬ (((cv S 110 0 (x2_1 : Int32).toNatClampNeg) : Int32) = 0)) → ((K_17 x2_1))))))
def wp_X6_leastWaiting (S : CST) (Post : Int32 → Prop) : Prop :=
  ∃ n_2, wl_X6_leastWaiting_2 S (Post (-1)) (fun x17_1 => Post x17_1) Post n_2 0
def zw_zd_X6_leastWaiting_w0 : List Cond := [.fieldLink RX6 9 "TemplateForge$Looker" "waiting" "[Z"]
def zw_zd_X6_leastWaiting : List Cond := .code yX6_leastWaiting cX6_leastWaiting 2 (some .int) :: ((zw_zd_X6_leastWaiting_w0) ++ wsX60)
set_option maxHeartbeats 16000000 in
set_option maxRecDepth 100000 in
theorem zd_X6_leastWaiting (l : Launch) (D : va_G) (cI cZ cP cF : Nat) (q : Nat → Nat → Nat) (S : CST) (Post : Int32 → Prop) (h : wp_X6_leastWaiting S Post) : Met l yX6_leastWaiting zw_zd_X6_leastWaiting ({ frames := 0, cells := 0, slots := 0, locals := 0 }) (va_Pc [.ref (q 10 0)] (fun U => va_P D vwCl (cW cI cZ cP cF q S) U.heap ∧ zF D cI cZ cP cF U)) (vp_Si Post) 0 0 (fun _ => False) := by
  unfold wp_X6_leastWaiting at h
  refine Met.ofW (cc := cX6_leastWaiting) (maxL := 2) (ret := (some .int)) (by decide) rfl ?_
  intro p e s m args below meth c s₁ B hml hv
  obtain ⟨rfl, hP, hE⟩ := hv
  have hx := B.exec
  have hb := B.bytes
  have hr := B.returns
  have hts := atoms_spec (ws := zw_zd_X6_leastWaiting) B.pre
  have hown : s.vm.findClass RX6 = some m.cls := findClass_of_methodNamed B.named
  have hlocks := B.notSynchronized
  have hK := hE.k
  have hl := lv_entry ([.ref (q 10 0)]) (n := 2) (Nat.le_of_ble_eq_true rfl)
  rw [lg_entry_eq]
  generalize (lg_sl ([.ref (q 10 0)]) ++ List.replicate (2 - (lg_sl ([.ref (q 10 0)])).length) Slot.unset).toArray = ls at hl ⊢
  have hl : lv_has ls 2 [(0, .ref (q 10 0))] := hl
  refine lv_iconst (v := 0) hx hb dX6_leastWaiting_0 (by decide) ?_
  refine lv_istore_n (lv' := [(1, .int 0), (0, .ref (q 10 0))]) hx hb dX6_leastWaiting_1 rfl hl (by decide) rfl (fun ls hl => ?_)
  have EX_2_25 : ∀ (ls : Array Slot), (Post (-1)) → lv_has ls 2 [] → W p l e (headSpec zw_zd_X6_leastWaiting ({ frames := 0, cells := 0, slots := 0, locals := 0 })).room s m ([.ref (q 10 0)] : List Value).toArray below meth c s.heap [] 0 0 (MQ below (vp_Si Post) ([.ref (q 10 0)] : List Value).toArray s 0 0 (fun _ => False)) (F0 m 25 ls []) := by
    intro  ls h hl
    refine lv_iconst (v := (-1)) hx hb dX6_leastWaiting_25 (by decide) ?_
    exact W.iret (v := (-1)) hx hb hr (fun t ht hW => ⟨_, rfl, h, ht⟩) (fun q h => by cases h) dX6_leastWaiting_26
  have EX_2_17 : ∀ (x17_1 : Int32) (ls : Array Slot), (Post x17_1) → lv_has ls 2 [(1, .int x17_1)] → W p l e (headSpec zw_zd_X6_leastWaiting ({ frames := 0, cells := 0, slots := 0, locals := 0 })).room s m ([.ref (q 10 0)] : List Value).toArray below meth c s.heap [] 0 0 (MQ below (vp_Si Post) ([.ref (q 10 0)] : List Value).toArray s 0 0 (fun _ => False)) (F0 m 17 ls []) := by
    intro x17_1 ls h hl
    refine lv_iload_n hx hb dX6_leastWaiting_17 rfl (lv_at hl 0 rfl) ?_
    exact W.iret (v := x17_1) hx hb hr (fun t ht hW => ⟨_, rfl, h, ht⟩) (fun q h => by cases h) dX6_leastWaiting_18
  have LP_2 : ∀ (n_2 : Nat), ∀ (x2_1 : Int32) (ls : Array Slot), wl_X6_leastWaiting_2 S (Post (-1)) (fun x17_1 => Post x17_1) Post n_2 x2_1 → lv_has ls 2 [(0, .ref (q 10 0)), (1, .int x2_1)] → W p l e (headSpec zw_zd_X6_leastWaiting ({ frames := 0, cells := 0, slots := 0, locals := 0 })).room s m ([.ref (q 10 0)] : List Value).toArray below meth c s.heap [] 0 0 (MQ below (vp_Si Post) ([.ref (q 10 0)] : List Value).toArray s 0 0 (fun _ => False)) (F0 m 2 ls []) := by
    intro n_2
    induction n_2 with
    | zero =>
      intro x2_1 ls h hl
      exact False.elim h
    | succ n_2 ih_2 =>
      intro x2_1 ls h hl
      unfold wl_X6_leastWaiting_2 at h
      refine lv_iload_n hx hb dX6_leastWaiting_2 rfl (lv_at hl 1 rfl) ?_
      refine lv_bipush (v := 60) hx hb dX6_leastWaiting_3 (by decide) ?_
      refine lv_icmp_ge (tgt := 25) hx hb dX6_leastWaiting_5 (by decide) (fun c_1 => ?_) (fun c_1 => ?_)
      · have h := h.1 c_1
        exact EX_2_25  _ h (lv_sub hl [] rfl)
      · have h := h.2 c_1
        refine lv_aload_n hx hb dX6_leastWaiting_8 rfl (lv_at hl 0 rfl) ?_
        obtain ⟨p_2, hp_2⟩ := cget_10 cI cZ cP cF q S
        have hi_2 : cin S 10 0 := Or.inl ⟨by decide, rfl⟩
        refine va_get (D := D) (ci := 6) (v := .ref (q 11 0)) (C := RX6) (T := TX6) (N := 4) hx hb hts (fun _ h => List.mem_cons_of_mem _ (List.mem_append_right _ h)) hown hK hP p_2 hp_2 rfl 2 (by decide) (hts (.fieldLink RX6 9 "TemplateForge$Looker" "waiting" "[Z") (List.mem_of_getElem? (i := 1) rfl)) (fun _ h9 => h9) rfl dX6_leastWaiting_9 ?_
        refine lv_iload_n hx hb dX6_leastWaiting_12 rfl (lv_at hl 1 rfl) ?_
        obtain ⟨p_3, hp_3⟩ := cget_11 cI cZ cP cF q S
        have hi_3 : cin S 11 0 := Or.inl ⟨by decide, rfl⟩
        have hin_3 := h.1
        have h := h.2
        refine va_zald hx hb hK hP p_3 1 hp_3 rfl hin_3 dX6_leastWaiting_13 ?_
        refine lv_if_eq (tgt := 19) hx hb dX6_leastWaiting_14 (by decide) (fun c_4 => ?_) (fun c_4 => ?_)
        · have h := h.1 c_4
          refine lv_iinc (v := x2_1 + 1) (lv' := [(1, .int (x2_1 + 1)), (0, .ref (q 10 0))]) hx hb dX6_leastWaiting_19 hl (k := 1) rfl rfl (by decide) rfl (fun ls hl => ?_)
          refine lv_goto (tgt := 2) hx hb dX6_leastWaiting_22 (by decide) ?_
          exact ih_2  (x2_1 + 1) _ h (lv_sub hl [1, 0] rfl)
        · have h := h.2 c_4
          exact EX_2_17  x2_1 _ h (lv_sub hl [1] rfl)
  obtain ⟨n_2, h⟩ := h
  exact LP_2 n_2 0 _ h (lv_sub hl [1, 0] rfl)

def wp_X6_isRightX (S : CST) (i1 : Nat) (a2 : Int32) (a3 : Int32) (Post : Int32 → Prop) : Prop :=
  ((a2 : Int32).toInt < 1 ∨ 17 < (a2 : Int32).toInt → (Post 1)) ∧ (a2 = 1 → ((((a3 : Int32) < 0) → (Post 0)) ∧ ((¬ ((a3 : Int32) < 0)) → (cin S 24 i1 ∧ ((((cv S 242 i1 0) ≤ a3) → (Post 0)) ∧ ((¬ ((cv S 242 i1 0) ≤ a3)) → (Post 1))))))) ∧ (a2 = 2 → ((((a3 : Int32) < 0) → (Post 0)) ∧ ((¬ ((a3 : Int32) < 0)) → (cin S 24 i1 ∧ ((((cv S 242 i1 0) ≤ a3) → (Post 0)) ∧ ((¬ ((cv S 242 i1 0) ≤ a3)) → (Post 1))))))) ∧ (a2 = 3 → (Post 1)) ∧ (a2 = 4 → (Post 1)) ∧ (a2 = 5 → (Post 1)) ∧ (a2 = 6 → (Post 1)) ∧ (a2 = 7 → (Post 1)) ∧ (a2 = 8 → (Post 1)) ∧ (a2 = 9 → (Post 1)) ∧ (a2 = 10 → (Post 1)) ∧ (a2 = 11 → (wp_X0_at S a3 (fun r9 => ((r9 < 0) → (Post 0)) ∧ ((¬ (r9 < 0)) → (Post 1))))) ∧ (a2 = 12 → (Post 1)) ∧ (a2 = 13 → ((((a3 : Int32) < 0) → (Post 0)) ∧ ((¬ ((a3 : Int32) < 0)) → (((8 ≤ a3) → (Post 0)) ∧ ((¬ (8 ≤ a3)) → (Post 1)))))) ∧ (a2 = 14 → ((((a3 : Int32) < 0) → (Post 0)) ∧ ((¬ ((a3 : Int32) < 0)) → (((8 ≤ a3) → (Post 0)) ∧ ((¬ (8 ≤ a3)) → (Post 1)))))) ∧ (a2 = 15 → ((((a3 : Int32) < 0) → (Post 0)) ∧ ((¬ ((a3 : Int32) < 0)) → (((4 ≤ a3) → (Post 0)) ∧ ((¬ (4 ≤ a3)) → (Post 1)))))) ∧ (a2 = 16 → ((((a3 : Int32) < 0) → (Post 0)) ∧ ((¬ ((a3 : Int32) < 0)) → (((4 ≤ a3) → (Post 0)) ∧ ((¬ (4 ≤ a3)) → (Post 1)))))) ∧ (a2 = 17 → ((((a3 : Int32) < 0) → (Post 0)) ∧ ((¬ ((a3 : Int32) < 0)) → (((4 ≤ a3) → (Post 0)) ∧ ((¬ (4 ≤ a3)) → (Post 1))))))
def zw_zd_X6_isRightX_w0 : List Cond := [.fieldLink RX6 89 "TemplateForge$Program" "locals" "I", .fieldLink RX6 15 "TemplateForge$Looker" "book" "LTemplateForge$Book;", .code yX0_at cX0_at 2 (some (.object "TemplateForge$Program")), .fieldLink RX0 17 "TemplateForge$Book" "told" "I", .fieldLink RX0 11 "TemplateForge$Book" "programs" "[LTemplateForge$Program;", .methodLink RX6 92 yX0_at, .instanceMethod yX0_at, .selects RX0 yX0_at yX0_at, .initialized RX0]
def zw_zd_X6_isRightX : List Cond := .code yX6_isRightX cX6_isRightX 4 (some .boolean) :: ((zw_zd_X6_isRightX_w0) ++ wsX80 ++ wsX60 ++ wsX00)
set_option maxRecDepth 100000 in
theorem zg_zd_X6_isRightX_zd_X0_at_92_a : GoodIn zw_zd_X6_isRightX [.methodLink RX6 92 yX0_at, .instanceMethod yX0_at, .selects RX0 yX0_at yX0_at, .initialized RX0] := goodIn_r _ [6, 7, 8, 9] rfl (by decide +kernel)
set_option maxRecDepth 100000 in
theorem zg_zd_X6_isRightX_zd_X0_at_92_c : GoodIn zw_zd_X6_isRightX [.code yX0_at cX0_at 2 (some (.object "TemplateForge$Program"))] := goodIn_r _ [3] rfl (by decide +kernel)
set_option maxRecDepth 100000 in
theorem zg_zd_X6_isRightX_zd_X0_at_92_0 : GoodIn zw_zd_X6_isRightX zw_zd_X0_at_w0 := goodIn_r _ [4, 5] rfl (by decide +kernel)
theorem zg_zd_X6_isRightX_zd_X0_at_92 : GoodIn zw_zd_X6_isRightX (wsV RX6 92 RX0 yX0_at zw_zd_X0_at) := goodIn_app zg_zd_X6_isRightX_zd_X0_at_92_a (goodIn_ca (a := (zw_zd_X0_at_w0)) (show GoodIn zw_zd_X6_isRightX (.code yX0_at cX0_at 2 (some (.object "TemplateForge$Program")) :: (zw_zd_X0_at_w0)) from goodIn_app zg_zd_X6_isRightX_zd_X0_at_92_c (zg_zd_X6_isRightX_zd_X0_at_92_0)) (fun w h => ⟨(fun _ h => List.mem_cons_of_mem _ (List.mem_append_right _ h)) w h, good_of_word (List.all_eq_true.mp zgw_X0 w h)⟩))
set_option maxHeartbeats 16000000 in
set_option maxRecDepth 100000 in
theorem zd_X6_isRightX (l : Launch) (D : va_G) (cI cZ cP cF : Nat) (q : Nat → Nat → Nat) (S : CST) (i1 : Nat) (a2 : Int32) (a3 : Int32) (Post : Int32 → Prop) (h : wp_X6_isRightX S i1 a2 a3 Post) : Met l yX6_isRightX zw_zd_X6_isRightX ({ frames := 1, cells := 0, slots := 0, locals := 21 }) (va_Pc [.ref (q 10 0), .ref (q 24 i1), .int a2, .int a3] (fun U => va_P D vwCl (cW cI cZ cP cF q S) U.heap ∧ zF D cI cZ cP cF U)) (vp_Si Post) 0 0 (fun _ => False) := by
  unfold wp_X6_isRightX at h
  refine Met.ofW (cc := cX6_isRightX) (maxL := 4) (ret := (some .boolean)) (by decide) rfl ?_
  intro p e s m args below meth c s₁ B hml hv
  obtain ⟨rfl, hP, hE⟩ := hv
  have hx := B.exec
  have hb := B.bytes
  have hr := B.returns
  have hts := atoms_spec (ws := zw_zd_X6_isRightX) B.pre
  have hown : s.vm.findClass RX6 = some m.cls := findClass_of_methodNamed B.named
  have hlocks := B.notSynchronized
  have hK := hE.k
  have hl := lv_entry ([.ref (q 10 0), .ref (q 24 i1), .int a2, .int a3]) (n := 4) (Nat.le_of_ble_eq_true rfl)
  rw [lg_entry_eq]
  generalize (lg_sl ([.ref (q 10 0), .ref (q 24 i1), .int a2, .int a3]) ++ List.replicate (4 - (lg_sl ([.ref (q 10 0), .ref (q 24 i1), .int a2, .int a3])).length) Slot.unset).toArray = ls at hl ⊢
  have hl : lv_has ls 4 [(0, .ref (q 10 0)), (1, .ref (q 24 i1)), (2, .int a2), (3, .int a3)] := hl
  refine lv_iload_n hx hb dX6_isRightX_0 rfl (lv_at hl 2 rfl) ?_
  rcases zt_1_17 a2 with h_out | h_in | h_in | h_in | h_in | h_in | h_in | h_in | h_in | h_in | h_in | h_in | h_in | h_in | h_in | h_in | h_in | h_in
  · have h := h.1 h_out
    refine lv_tableOut (tgt := 150) hx hb dX6_isRightX_1 h_out (by decide) ?_
    refine lv_iconst (v := 1) hx hb dX6_isRightX_150 (by decide) ?_
    exact W.zret (v := 1) (ty := .boolean) hx hb hr (by decide) (fun t ht hW => ⟨_, rfl, h, ht⟩) (fun q h => by cases h) dX6_isRightX_151
  · have h := h.2.1 h_in
    refine lv_tableIn (off := 83) (tgt := 84) hx hb dX6_isRightX_1 (by rw [h_in]; decide) (by rw [h_in]; decide) (by rw [h_in]; decide) (by decide) ?_
    refine lv_iload_n hx hb dX6_isRightX_84 rfl (lv_at hl 3 rfl) ?_
    refine lv_if_lt (tgt := 100) hx hb dX6_isRightX_85 (by decide) (fun c_1 => ?_) (fun c_1 => ?_)
    · have h := h.1 c_1
      refine lv_iconst (v := 0) hx hb dX6_isRightX_100 (by decide) ?_
      exact W.zret (v := 0) (ty := .boolean) hx hb hr (by decide) (fun t ht hW => ⟨_, rfl, h, ht⟩) (fun q h => by cases h) dX6_isRightX_101
    · have h := h.2 c_1
      refine lv_iload_n hx hb dX6_isRightX_88 rfl (lv_at hl 3 rfl) ?_
      refine lv_aload_n hx hb dX6_isRightX_89 rfl (lv_at hl 1 rfl) ?_
      have hi_2 := h.1
      have h := h.2
      obtain ⟨p_2, hp_2⟩ := cget_24 cI cZ cP cF q S hi_2
      refine va_get (D := D) (ci := 8) (v := .int (cv S 242 i1 0)) (C := RX8) (T := TX8) (N := 10) hx hb hts (fun _ h => List.mem_cons_of_mem _ (List.mem_append_left _ (List.mem_append_left _ (List.mem_append_right _ h)))) hown hK hP p_2 hp_2 rfl 2 (by decide) (hts (.fieldLink RX6 89 "TemplateForge$Program" "locals" "I") (List.mem_of_getElem? (i := 1) rfl)) (fun _ h9 => h9) rfl dX6_isRightX_90 ?_
      refine lv_icmp_ge (tgt := 100) hx hb dX6_isRightX_93 (by decide) (fun c_3 => ?_) (fun c_3 => ?_)
      · have h := h.1 c_3
        refine lv_iconst (v := 0) hx hb dX6_isRightX_100 (by decide) ?_
        exact W.zret (v := 0) (ty := .boolean) hx hb hr (by decide) (fun t ht hW => ⟨_, rfl, h, ht⟩) (fun q h => by cases h) dX6_isRightX_101
      · have h := h.2 c_3
        refine lv_iconst (v := 1) hx hb dX6_isRightX_96 (by decide) ?_
        refine lv_goto (tgt := 101) hx hb dX6_isRightX_97 (by decide) ?_
        exact W.zret (v := 1) (ty := .boolean) hx hb hr (by decide) (fun t ht hW => ⟨_, rfl, h, ht⟩) (fun q h => by cases h) dX6_isRightX_101
  · have h := h.2.2.1 h_in
    refine lv_tableIn (off := 83) (tgt := 84) hx hb dX6_isRightX_1 (by rw [h_in]; decide) (by rw [h_in]; decide) (by rw [h_in]; decide) (by decide) ?_
    refine lv_iload_n hx hb dX6_isRightX_84 rfl (lv_at hl 3 rfl) ?_
    refine lv_if_lt (tgt := 100) hx hb dX6_isRightX_85 (by decide) (fun c_4 => ?_) (fun c_4 => ?_)
    · have h := h.1 c_4
      refine lv_iconst (v := 0) hx hb dX6_isRightX_100 (by decide) ?_
      exact W.zret (v := 0) (ty := .boolean) hx hb hr (by decide) (fun t ht hW => ⟨_, rfl, h, ht⟩) (fun q h => by cases h) dX6_isRightX_101
    · have h := h.2 c_4
      refine lv_iload_n hx hb dX6_isRightX_88 rfl (lv_at hl 3 rfl) ?_
      refine lv_aload_n hx hb dX6_isRightX_89 rfl (lv_at hl 1 rfl) ?_
      have hi_5 := h.1
      have h := h.2
      obtain ⟨p_5, hp_5⟩ := cget_24 cI cZ cP cF q S hi_5
      refine va_get (D := D) (ci := 8) (v := .int (cv S 242 i1 0)) (C := RX8) (T := TX8) (N := 10) hx hb hts (fun _ h => List.mem_cons_of_mem _ (List.mem_append_left _ (List.mem_append_left _ (List.mem_append_right _ h)))) hown hK hP p_5 hp_5 rfl 2 (by decide) (hts (.fieldLink RX6 89 "TemplateForge$Program" "locals" "I") (List.mem_of_getElem? (i := 1) rfl)) (fun _ h9 => h9) rfl dX6_isRightX_90 ?_
      refine lv_icmp_ge (tgt := 100) hx hb dX6_isRightX_93 (by decide) (fun c_6 => ?_) (fun c_6 => ?_)
      · have h := h.1 c_6
        refine lv_iconst (v := 0) hx hb dX6_isRightX_100 (by decide) ?_
        exact W.zret (v := 0) (ty := .boolean) hx hb hr (by decide) (fun t ht hW => ⟨_, rfl, h, ht⟩) (fun q h => by cases h) dX6_isRightX_101
      · have h := h.2 c_6
        refine lv_iconst (v := 1) hx hb dX6_isRightX_96 (by decide) ?_
        refine lv_goto (tgt := 101) hx hb dX6_isRightX_97 (by decide) ?_
        exact W.zret (v := 1) (ty := .boolean) hx hb hr (by decide) (fun t ht hW => ⟨_, rfl, h, ht⟩) (fun q h => by cases h) dX6_isRightX_101
  · have h := h.2.2.2.1 h_in
    refine lv_tableIn (off := 149) (tgt := 150) hx hb dX6_isRightX_1 (by rw [h_in]; decide) (by rw [h_in]; decide) (by rw [h_in]; decide) (by decide) ?_
    refine lv_iconst (v := 1) hx hb dX6_isRightX_150 (by decide) ?_
    exact W.zret (v := 1) (ty := .boolean) hx hb hr (by decide) (fun t ht hW => ⟨_, rfl, h, ht⟩) (fun q h => by cases h) dX6_isRightX_151
  · have h := h.2.2.2.2.1 h_in
    refine lv_tableIn (off := 149) (tgt := 150) hx hb dX6_isRightX_1 (by rw [h_in]; decide) (by rw [h_in]; decide) (by rw [h_in]; decide) (by decide) ?_
    refine lv_iconst (v := 1) hx hb dX6_isRightX_150 (by decide) ?_
    exact W.zret (v := 1) (ty := .boolean) hx hb hr (by decide) (fun t ht hW => ⟨_, rfl, h, ht⟩) (fun q h => by cases h) dX6_isRightX_151
  · have h := h.2.2.2.2.2.1 h_in
    refine lv_tableIn (off := 149) (tgt := 150) hx hb dX6_isRightX_1 (by rw [h_in]; decide) (by rw [h_in]; decide) (by rw [h_in]; decide) (by decide) ?_
    refine lv_iconst (v := 1) hx hb dX6_isRightX_150 (by decide) ?_
    exact W.zret (v := 1) (ty := .boolean) hx hb hr (by decide) (fun t ht hW => ⟨_, rfl, h, ht⟩) (fun q h => by cases h) dX6_isRightX_151
  · have h := h.2.2.2.2.2.2.1 h_in
    refine lv_tableIn (off := 149) (tgt := 150) hx hb dX6_isRightX_1 (by rw [h_in]; decide) (by rw [h_in]; decide) (by rw [h_in]; decide) (by decide) ?_
    refine lv_iconst (v := 1) hx hb dX6_isRightX_150 (by decide) ?_
    exact W.zret (v := 1) (ty := .boolean) hx hb hr (by decide) (fun t ht hW => ⟨_, rfl, h, ht⟩) (fun q h => by cases h) dX6_isRightX_151
  · have h := h.2.2.2.2.2.2.2.1 h_in
    refine lv_tableIn (off := 149) (tgt := 150) hx hb dX6_isRightX_1 (by rw [h_in]; decide) (by rw [h_in]; decide) (by rw [h_in]; decide) (by decide) ?_
    refine lv_iconst (v := 1) hx hb dX6_isRightX_150 (by decide) ?_
    exact W.zret (v := 1) (ty := .boolean) hx hb hr (by decide) (fun t ht hW => ⟨_, rfl, h, ht⟩) (fun q h => by cases h) dX6_isRightX_151
  · have h := h.2.2.2.2.2.2.2.2.1 h_in
    refine lv_tableIn (off := 149) (tgt := 150) hx hb dX6_isRightX_1 (by rw [h_in]; decide) (by rw [h_in]; decide) (by rw [h_in]; decide) (by decide) ?_
    refine lv_iconst (v := 1) hx hb dX6_isRightX_150 (by decide) ?_
    exact W.zret (v := 1) (ty := .boolean) hx hb hr (by decide) (fun t ht hW => ⟨_, rfl, h, ht⟩) (fun q h => by cases h) dX6_isRightX_151
  · have h := h.2.2.2.2.2.2.2.2.2.1 h_in
    refine lv_tableIn (off := 149) (tgt := 150) hx hb dX6_isRightX_1 (by rw [h_in]; decide) (by rw [h_in]; decide) (by rw [h_in]; decide) (by decide) ?_
    refine lv_iconst (v := 1) hx hb dX6_isRightX_150 (by decide) ?_
    exact W.zret (v := 1) (ty := .boolean) hx hb hr (by decide) (fun t ht hW => ⟨_, rfl, h, ht⟩) (fun q h => by cases h) dX6_isRightX_151
  · have h := h.2.2.2.2.2.2.2.2.2.2.1 h_in
    refine lv_tableIn (off := 149) (tgt := 150) hx hb dX6_isRightX_1 (by rw [h_in]; decide) (by rw [h_in]; decide) (by rw [h_in]; decide) (by decide) ?_
    refine lv_iconst (v := 1) hx hb dX6_isRightX_150 (by decide) ?_
    exact W.zret (v := 1) (ty := .boolean) hx hb hr (by decide) (fun t ht hW => ⟨_, rfl, h, ht⟩) (fun q h => by cases h) dX6_isRightX_151
  · have h := h.2.2.2.2.2.2.2.2.2.2.2.1 h_in
    refine lv_tableIn (off := 101) (tgt := 102) hx hb dX6_isRightX_1 (by rw [h_in]; decide) (by rw [h_in]; decide) (by rw [h_in]; decide) (by decide) ?_
    refine lv_aload_n hx hb dX6_isRightX_102 rfl (lv_at hl 0 rfl) ?_
    obtain ⟨p_7, hp_7⟩ := cget_10 cI cZ cP cF q S
    have hi_7 : cin S 10 0 := Or.inl ⟨by decide, rfl⟩
    refine va_get (D := D) (ci := 6) (v := .ref (q 1 0)) (C := RX6) (T := TX6) (N := 4) hx hb hts (fun _ h => List.mem_cons_of_mem _ (List.mem_append_left _ (List.mem_append_right _ h))) hown hK hP p_7 hp_7 rfl 0 (by decide) (hts (.fieldLink RX6 15 "TemplateForge$Looker" "book" "LTemplateForge$Book;") (List.mem_of_getElem? (i := 2) rfl)) (fun _ h9 => h9) rfl dX6_isRightX_103 ?_
    refine lv_iload_n hx hb dX6_isRightX_106 rfl (lv_at hl 3 rfl) ?_
    obtain ⟨p_8, hp_8⟩ := cget_1 cI cZ cP cF q S
    have hi_8 : cin S 1 0 := Or.inl ⟨by decide, rfl⟩
    refine va_csq (va_Run.run (va_runV (As := [.int a3]) (rest := []) ⟨hx, hb, hml, hown, hts⟩ (zd_X0_at l D cI cZ cP cF q S a3  _ h) (cwV 1 hts zg_zd_X6_isRightX_zd_X0_at_92 rfl rfl rfl (by decide +kernel) ⟨Nat.le_of_ble_eq_true rfl, Nat.le_of_ble_eq_true rfl⟩) ⟨zCR, va_recv hK hP (ci := 0) (q0 := p_8) rfl hp_8, fun U hU hW => ⟨rfl, by rw [hU]; exact hP, hE.warm hW⟩⟩ rfl rfl hl.1 rfl (lv_room (Nat.le_of_ble_eq_true rfl)) dX6_isRightX_107 ⟨Nat.le_of_ble_eq_true rfl, Nat.le_of_ble_eq_true rfl⟩)) (fun o_9 ho_9 => ?_)
    obtain ⟨r9, rfl, h⟩ := ho_9
    by_cases hn_10 : r9 < 0
    · have h := h.1 hn_10
      rw [show va_rf (cno q 24 r9) = .null from cn_neg hn_10]
      refine lv_ifnullN (tgt := 117) hx hb dX6_isRightX_110 (by decide) ?_
      refine lv_iconst (v := 0) hx hb dX6_isRightX_117 (by decide) ?_
      exact W.zret (v := 0) (ty := .boolean) hx hb hr (by decide) (fun t ht hW => ⟨_, rfl, h, ht⟩) (fun q h => by cases h) dX6_isRightX_118
    · have h := h.2 hn_10
      rw [show va_rf (cno q 24 r9) = .ref (q 24 (r9 : Int32).toNatClampNeg) from cn_pos hn_10]
      refine lv_ifnull hx hb dX6_isRightX_110 ?_
      refine lv_iconst (v := 1) hx hb dX6_isRightX_113 (by decide) ?_
      refine lv_goto (tgt := 118) hx hb dX6_isRightX_114 (by decide) ?_
      exact W.zret (v := 1) (ty := .boolean) hx hb hr (by decide) (fun t ht hW => ⟨_, rfl, h, ht⟩) (fun q h => by cases h) dX6_isRightX_118
  · have h := h.2.2.2.2.2.2.2.2.2.2.2.2.1 h_in
    refine lv_tableIn (off := 149) (tgt := 150) hx hb dX6_isRightX_1 (by rw [h_in]; decide) (by rw [h_in]; decide) (by rw [h_in]; decide) (by decide) ?_
    refine lv_iconst (v := 1) hx hb dX6_isRightX_150 (by decide) ?_
    exact W.zret (v := 1) (ty := .boolean) hx hb hr (by decide) (fun t ht hW => ⟨_, rfl, h, ht⟩) (fun q h => by cases h) dX6_isRightX_151
  · have h := h.2.2.2.2.2.2.2.2.2.2.2.2.2.1 h_in
    refine lv_tableIn (off := 118) (tgt := 119) hx hb dX6_isRightX_1 (by rw [h_in]; decide) (by rw [h_in]; decide) (by rw [h_in]; decide) (by decide) ?_
    refine lv_iload_n hx hb dX6_isRightX_119 rfl (lv_at hl 3 rfl) ?_
    refine lv_if_lt (tgt := 133) hx hb dX6_isRightX_120 (by decide) (fun c_11 => ?_) (fun c_11 => ?_)
    · have h := h.1 c_11
      refine lv_iconst (v := 0) hx hb dX6_isRightX_133 (by decide) ?_
      exact W.zret (v := 0) (ty := .boolean) hx hb hr (by decide) (fun t ht hW => ⟨_, rfl, h, ht⟩) (fun q h => by cases h) dX6_isRightX_134
    · have h := h.2 c_11
      refine lv_iload_n hx hb dX6_isRightX_123 rfl (lv_at hl 3 rfl) ?_
      refine lv_bipush (v := 8) hx hb dX6_isRightX_124 (by decide) ?_
      refine lv_icmp_ge (tgt := 133) hx hb dX6_isRightX_126 (by decide) (fun c_12 => ?_) (fun c_12 => ?_)
      · have h := h.1 c_12
        refine lv_iconst (v := 0) hx hb dX6_isRightX_133 (by decide) ?_
        exact W.zret (v := 0) (ty := .boolean) hx hb hr (by decide) (fun t ht hW => ⟨_, rfl, h, ht⟩) (fun q h => by cases h) dX6_isRightX_134
      · have h := h.2 c_12
        refine lv_iconst (v := 1) hx hb dX6_isRightX_129 (by decide) ?_
        refine lv_goto (tgt := 134) hx hb dX6_isRightX_130 (by decide) ?_
        exact W.zret (v := 1) (ty := .boolean) hx hb hr (by decide) (fun t ht hW => ⟨_, rfl, h, ht⟩) (fun q h => by cases h) dX6_isRightX_134
  · have h := h.2.2.2.2.2.2.2.2.2.2.2.2.2.2.1 h_in
    refine lv_tableIn (off := 118) (tgt := 119) hx hb dX6_isRightX_1 (by rw [h_in]; decide) (by rw [h_in]; decide) (by rw [h_in]; decide) (by decide) ?_
    refine lv_iload_n hx hb dX6_isRightX_119 rfl (lv_at hl 3 rfl) ?_
    refine lv_if_lt (tgt := 133) hx hb dX6_isRightX_120 (by decide) (fun c_13 => ?_) (fun c_13 => ?_)
    · have h := h.1 c_13
      refine lv_iconst (v := 0) hx hb dX6_isRightX_133 (by decide) ?_
      exact W.zret (v := 0) (ty := .boolean) hx hb hr (by decide) (fun t ht hW => ⟨_, rfl, h, ht⟩) (fun q h => by cases h) dX6_isRightX_134
    · have h := h.2 c_13
      refine lv_iload_n hx hb dX6_isRightX_123 rfl (lv_at hl 3 rfl) ?_
      refine lv_bipush (v := 8) hx hb dX6_isRightX_124 (by decide) ?_
      refine lv_icmp_ge (tgt := 133) hx hb dX6_isRightX_126 (by decide) (fun c_14 => ?_) (fun c_14 => ?_)
      · have h := h.1 c_14
        refine lv_iconst (v := 0) hx hb dX6_isRightX_133 (by decide) ?_
        exact W.zret (v := 0) (ty := .boolean) hx hb hr (by decide) (fun t ht hW => ⟨_, rfl, h, ht⟩) (fun q h => by cases h) dX6_isRightX_134
      · have h := h.2 c_14
        refine lv_iconst (v := 1) hx hb dX6_isRightX_129 (by decide) ?_
        refine lv_goto (tgt := 134) hx hb dX6_isRightX_130 (by decide) ?_
        exact W.zret (v := 1) (ty := .boolean) hx hb hr (by decide) (fun t ht hW => ⟨_, rfl, h, ht⟩) (fun q h => by cases h) dX6_isRightX_134
  · have h := h.2.2.2.2.2.2.2.2.2.2.2.2.2.2.2.1 h_in
    refine lv_tableIn (off := 134) (tgt := 135) hx hb dX6_isRightX_1 (by rw [h_in]; decide) (by rw [h_in]; decide) (by rw [h_in]; decide) (by decide) ?_
    refine lv_iload_n hx hb dX6_isRightX_135 rfl (lv_at hl 3 rfl) ?_
    refine lv_if_lt (tgt := 148) hx hb dX6_isRightX_136 (by decide) (fun c_15 => ?_) (fun c_15 => ?_)
    · have h := h.1 c_15
      refine lv_iconst (v := 0) hx hb dX6_isRightX_148 (by decide) ?_
      exact W.zret (v := 0) (ty := .boolean) hx hb hr (by decide) (fun t ht hW => ⟨_, rfl, h, ht⟩) (fun q h => by cases h) dX6_isRightX_149
    · have h := h.2 c_15
      refine lv_iload_n hx hb dX6_isRightX_139 rfl (lv_at hl 3 rfl) ?_
      refine lv_iconst (v := 4) hx hb dX6_isRightX_140 (by decide) ?_
      refine lv_icmp_ge (tgt := 148) hx hb dX6_isRightX_141 (by decide) (fun c_16 => ?_) (fun c_16 => ?_)
      · have h := h.1 c_16
        refine lv_iconst (v := 0) hx hb dX6_isRightX_148 (by decide) ?_
        exact W.zret (v := 0) (ty := .boolean) hx hb hr (by decide) (fun t ht hW => ⟨_, rfl, h, ht⟩) (fun q h => by cases h) dX6_isRightX_149
      · have h := h.2 c_16
        refine lv_iconst (v := 1) hx hb dX6_isRightX_144 (by decide) ?_
        refine lv_goto (tgt := 149) hx hb dX6_isRightX_145 (by decide) ?_
        exact W.zret (v := 1) (ty := .boolean) hx hb hr (by decide) (fun t ht hW => ⟨_, rfl, h, ht⟩) (fun q h => by cases h) dX6_isRightX_149
  · have h := h.2.2.2.2.2.2.2.2.2.2.2.2.2.2.2.2.1 h_in
    refine lv_tableIn (off := 134) (tgt := 135) hx hb dX6_isRightX_1 (by rw [h_in]; decide) (by rw [h_in]; decide) (by rw [h_in]; decide) (by decide) ?_
    refine lv_iload_n hx hb dX6_isRightX_135 rfl (lv_at hl 3 rfl) ?_
    refine lv_if_lt (tgt := 148) hx hb dX6_isRightX_136 (by decide) (fun c_17 => ?_) (fun c_17 => ?_)
    · have h := h.1 c_17
      refine lv_iconst (v := 0) hx hb dX6_isRightX_148 (by decide) ?_
      exact W.zret (v := 0) (ty := .boolean) hx hb hr (by decide) (fun t ht hW => ⟨_, rfl, h, ht⟩) (fun q h => by cases h) dX6_isRightX_149
    · have h := h.2 c_17
      refine lv_iload_n hx hb dX6_isRightX_139 rfl (lv_at hl 3 rfl) ?_
      refine lv_iconst (v := 4) hx hb dX6_isRightX_140 (by decide) ?_
      refine lv_icmp_ge (tgt := 148) hx hb dX6_isRightX_141 (by decide) (fun c_18 => ?_) (fun c_18 => ?_)
      · have h := h.1 c_18
        refine lv_iconst (v := 0) hx hb dX6_isRightX_148 (by decide) ?_
        exact W.zret (v := 0) (ty := .boolean) hx hb hr (by decide) (fun t ht hW => ⟨_, rfl, h, ht⟩) (fun q h => by cases h) dX6_isRightX_149
      · have h := h.2 c_18
        refine lv_iconst (v := 1) hx hb dX6_isRightX_144 (by decide) ?_
        refine lv_goto (tgt := 149) hx hb dX6_isRightX_145 (by decide) ?_
        exact W.zret (v := 1) (ty := .boolean) hx hb hr (by decide) (fun t ht hW => ⟨_, rfl, h, ht⟩) (fun q h => by cases h) dX6_isRightX_149
  · have h := h.2.2.2.2.2.2.2.2.2.2.2.2.2.2.2.2.2 h_in
    refine lv_tableIn (off := 134) (tgt := 135) hx hb dX6_isRightX_1 (by rw [h_in]; decide) (by rw [h_in]; decide) (by rw [h_in]; decide) (by decide) ?_
    refine lv_iload_n hx hb dX6_isRightX_135 rfl (lv_at hl 3 rfl) ?_
    refine lv_if_lt (tgt := 148) hx hb dX6_isRightX_136 (by decide) (fun c_19 => ?_) (fun c_19 => ?_)
    · have h := h.1 c_19
      refine lv_iconst (v := 0) hx hb dX6_isRightX_148 (by decide) ?_
      exact W.zret (v := 0) (ty := .boolean) hx hb hr (by decide) (fun t ht hW => ⟨_, rfl, h, ht⟩) (fun q h => by cases h) dX6_isRightX_149
    · have h := h.2 c_19
      refine lv_iload_n hx hb dX6_isRightX_139 rfl (lv_at hl 3 rfl) ?_
      refine lv_iconst (v := 4) hx hb dX6_isRightX_140 (by decide) ?_
      refine lv_icmp_ge (tgt := 148) hx hb dX6_isRightX_141 (by decide) (fun c_20 => ?_) (fun c_20 => ?_)
      · have h := h.1 c_20
        refine lv_iconst (v := 0) hx hb dX6_isRightX_148 (by decide) ?_
        exact W.zret (v := 0) (ty := .boolean) hx hb hr (by decide) (fun t ht hW => ⟨_, rfl, h, ht⟩) (fun q h => by cases h) dX6_isRightX_149
      · have h := h.2 c_20
        refine lv_iconst (v := 1) hx hb dX6_isRightX_144 (by decide) ?_
        refine lv_goto (tgt := 149) hx hb dX6_isRightX_145 (by decide) ?_
        exact W.zret (v := 1) (ty := .boolean) hx hb hr (by decide) (fun t ht hW => ⟨_, rfl, h, ht⟩) (fun q h => by cases h) dX6_isRightX_149

def wl_X6_greatestDepth_4 (S : CST) (K_28 : Int32 → Prop) (Post : Int32 → Prop) : Nat → Nat → Int32 → Int32 → Prop
  | 0, _, _, _ => False
  | n_4 + 1, y4_1, x4_2, x4_3 => cin S 24 y4_1 ∧ ((((cv S 247 y4_1 0) ≤ x4_3) → ((K_28 x4_2))) ∧ ((¬ ((cv S 247 y4_1 0) ≤ x4_3)) → (cin S 24 y4_1 ∧ (wp_X8_depthAt S y4_1 x4_3 (fun r4 => wl_X6_greatestDepth_4 S K_28 Post n_4 y4_1 (if x4_2 < r4 then r4 else x4_2) (x4_3 + 1))))))
def wp_X6_greatestDepth (S : CST) (i1 : Nat) (Post : Int32 → Prop) : Prop :=
  ∃ n_4, wl_X6_greatestDepth_4 S (fun x28_2 => Post x28_2) Post n_4 i1 0 0
def zw_zd_X6_greatestDepth_w0 : List Cond := [.fieldLink RX6 28 "TemplateForge$Program" "length" "I", .code yX8_depthAt cX8_depthAt 2 (some .int), .code yX8_has cX8_has 2 (some .boolean), .fieldLink RX8 41 "TemplateForge$Program" "length" "I", .methodLink RX8 44 yX8_has, .instanceMethod yX8_has, .selects RX8 yX8_has yX8_has, .initialized RX8, .fieldLink RX8 25 "TemplateForge$Program" "depths" "[I", .methodLink RX6 78 yX8_depthAt, .instanceMethod yX8_depthAt, .selects RX8 yX8_depthAt yX8_depthAt, .methodLink RX6 103 Lib.Math.max.name, .static Lib.Math.max.name, .initialized "java/lang/Math", .code Lib.Math.max.name Lib.Math.max.code 2 (some .int)]
def zw_zd_X6_greatestDepth : List Cond := .code yX6_greatestDepth cX6_greatestDepth 4 (some .int) :: ((zw_zd_X6_greatestDepth_w0) ++ wsX80)
set_option maxRecDepth 100000 in
theorem zg_zd_X6_greatestDepth_zd_X8_depthAt_78_a : GoodIn zw_zd_X6_greatestDepth [.methodLink RX6 78 yX8_depthAt, .instanceMethod yX8_depthAt, .selects RX8 yX8_depthAt yX8_depthAt, .initialized RX8] := goodIn_r _ [10, 11, 12, 8] rfl (by decide +kernel)
set_option maxRecDepth 100000 in
theorem zg_zd_X6_greatestDepth_zd_X8_depthAt_78_c : GoodIn zw_zd_X6_greatestDepth [.code yX8_depthAt cX8_depthAt 2 (some .int)] := goodIn_r _ [2] rfl (by decide +kernel)
set_option maxRecDepth 100000 in
theorem zg_zd_X6_greatestDepth_zd_X8_depthAt_78_0 : GoodIn zw_zd_X6_greatestDepth zw_zd_X8_depthAt_w0 := goodIn_r _ [3, 4, 5, 6, 7, 8, 9] rfl (by decide +kernel)
theorem zg_zd_X6_greatestDepth_zd_X8_depthAt_78 : GoodIn zw_zd_X6_greatestDepth (wsV RX6 78 RX8 yX8_depthAt zw_zd_X8_depthAt) := goodIn_app zg_zd_X6_greatestDepth_zd_X8_depthAt_78_a (goodIn_ca (a := (zw_zd_X8_depthAt_w0)) (show GoodIn zw_zd_X6_greatestDepth (.code yX8_depthAt cX8_depthAt 2 (some .int) :: (zw_zd_X8_depthAt_w0)) from goodIn_app zg_zd_X6_greatestDepth_zd_X8_depthAt_78_c (zg_zd_X6_greatestDepth_zd_X8_depthAt_78_0)) (fun w h => ⟨(fun _ h => List.mem_cons_of_mem _ (List.mem_append_right _ h)) w h, good_of_word (List.all_eq_true.mp zgw_X8 w h)⟩))
set_option maxHeartbeats 16000000 in
set_option maxRecDepth 100000 in
theorem zd_X6_greatestDepth (l : Launch) (D : va_G) (cI cZ cP cF : Nat) (q : Nat → Nat → Nat) (S : CST) (i1 : Nat) (Post : Int32 → Prop) (h : wp_X6_greatestDepth S i1 Post) : Met l yX6_greatestDepth zw_zd_X6_greatestDepth ({ frames := 2, cells := 0, slots := 0, locals := 42 }) (va_Pc [.ref (q 10 0), .ref (q 24 i1)] (fun U => va_P D vwCl (cW cI cZ cP cF q S) U.heap ∧ zF D cI cZ cP cF U)) (vp_Si Post) 0 0 (fun _ => False) := by
  unfold wp_X6_greatestDepth at h
  refine Met.ofW (cc := cX6_greatestDepth) (maxL := 4) (ret := (some .int)) (by decide) rfl ?_
  intro p e s m args below meth c s₁ B hml hv
  obtain ⟨rfl, hP, hE⟩ := hv
  have hx := B.exec
  have hb := B.bytes
  have hr := B.returns
  have hts := atoms_spec (ws := zw_zd_X6_greatestDepth) B.pre
  have hown : s.vm.findClass RX6 = some m.cls := findClass_of_methodNamed B.named
  have hlocks := B.notSynchronized
  have hK := hE.k
  have hl := lv_entry ([.ref (q 10 0), .ref (q 24 i1)]) (n := 4) (Nat.le_of_ble_eq_true rfl)
  rw [lg_entry_eq]
  generalize (lg_sl ([.ref (q 10 0), .ref (q 24 i1)]) ++ List.replicate (4 - (lg_sl ([.ref (q 10 0), .ref (q 24 i1)])).length) Slot.unset).toArray = ls at hl ⊢
  have hl : lv_has ls 4 [(0, .ref (q 10 0)), (1, .ref (q 24 i1))] := hl
  refine lv_iconst (v := 0) hx hb dX6_greatestDepth_0 (by decide) ?_
  refine lv_istore_n (lv' := [(2, .int 0), (0, .ref (q 10 0)), (1, .ref (q 24 i1))]) hx hb dX6_greatestDepth_1 rfl hl (by decide) rfl (fun ls hl => ?_)
  refine lv_iconst (v := 0) hx hb dX6_greatestDepth_2 (by decide) ?_
  refine lv_istore_n (lv' := [(3, .int 0), (2, .int 0), (0, .ref (q 10 0)), (1, .ref (q 24 i1))]) hx hb dX6_greatestDepth_3 rfl hl (by decide) rfl (fun ls hl => ?_)
  have EX_4_28 : ∀ (x28_2 : Int32) (ls : Array Slot), (Post x28_2) → lv_has ls 4 [(2, .int x28_2)] → W p l e (headSpec zw_zd_X6_greatestDepth ({ frames := 2, cells := 0, slots := 0, locals := 42 })).room s m ([.ref (q 10 0), .ref (q 24 i1)] : List Value).toArray below meth c s.heap [] 0 0 (MQ below (vp_Si Post) ([.ref (q 10 0), .ref (q 24 i1)] : List Value).toArray s 0 0 (fun _ => False)) (F0 m 28 ls []) := by
    intro x28_2 ls h hl
    refine lv_iload_n hx hb dX6_greatestDepth_28 rfl (lv_at hl 0 rfl) ?_
    exact W.iret (v := x28_2) hx hb hr (fun t ht hW => ⟨_, rfl, h, ht⟩) (fun q h => by cases h) dX6_greatestDepth_29
  have LP_4 : ∀ (n_4 : Nat), ∀ (y4_1 : Nat) (x4_2 : Int32) (x4_3 : Int32) (ls : Array Slot), wl_X6_greatestDepth_4 S (fun x28_2 => Post x28_2) Post n_4 y4_1 x4_2 x4_3 → lv_has ls 4 [(1, .ref (q 24 y4_1)), (2, .int x4_2), (3, .int x4_3)] → W p l e (headSpec zw_zd_X6_greatestDepth ({ frames := 2, cells := 0, slots := 0, locals := 42 })).room s m ([.ref (q 10 0), .ref (q 24 i1)] : List Value).toArray below meth c s.heap [] 0 0 (MQ below (vp_Si Post) ([.ref (q 10 0), .ref (q 24 i1)] : List Value).toArray s 0 0 (fun _ => False)) (F0 m 4 ls []) := by
    intro n_4
    induction n_4 with
    | zero =>
      intro y4_1 x4_2 x4_3 ls h hl
      exact False.elim h
    | succ n_4 ih_4 =>
      intro y4_1 x4_2 x4_3 ls h hl
      unfold wl_X6_greatestDepth_4 at h
      refine lv_iload_n hx hb dX6_greatestDepth_4 rfl (lv_at hl 2 rfl) ?_
      refine lv_aload_n hx hb dX6_greatestDepth_5 rfl (lv_at hl 0 rfl) ?_
      have hi_1 := h.1
      have h := h.2
      obtain ⟨p_1, hp_1⟩ := cget_24 cI cZ cP cF q S hi_1
      refine va_get (D := D) (ci := 8) (v := .int (cv S 247 y4_1 0)) (C := RX8) (T := TX8) (N := 10) hx hb hts (fun _ h => List.mem_cons_of_mem _ (List.mem_append_right _ h)) hown hK hP p_1 hp_1 rfl 7 (by decide) (hts (.fieldLink RX6 28 "TemplateForge$Program" "length" "I") (List.mem_of_getElem? (i := 1) rfl)) (fun _ h9 => h9) rfl dX6_greatestDepth_6 ?_
      refine lv_icmp_ge (tgt := 28) hx hb dX6_greatestDepth_9 (by decide) (fun c_2 => ?_) (fun c_2 => ?_)
      · have h := h.1 c_2
        exact EX_4_28  x4_2 _ h (lv_sub hl [1] rfl)
      · have h := h.2 c_2
        refine lv_iload_n hx hb dX6_greatestDepth_12 rfl (lv_at hl 1 rfl) ?_
        refine lv_aload_n hx hb dX6_greatestDepth_13 rfl (lv_at hl 0 rfl) ?_
        refine lv_iload_n hx hb dX6_greatestDepth_14 rfl (lv_at hl 2 rfl) ?_
        have hi_3 := h.1
        have h := h.2
        obtain ⟨p_3, hp_3⟩ := cget_24 cI cZ cP cF q S hi_3
        refine vp_callSi (va_Run.run (va_runV (As := [.int x4_3]) (rest := [.int x4_2]) ⟨hx, hb, hml, hown, hts⟩ (zd_X8_depthAt l D cI cZ cP cF q S y4_1 x4_3  _ h) (cwV 1 hts zg_zd_X6_greatestDepth_zd_X8_depthAt_78 rfl rfl rfl (by decide +kernel) ⟨Nat.le_of_ble_eq_true rfl, Nat.le_of_ble_eq_true rfl⟩) ⟨zCR, va_recv hK hP (ci := 8) (q0 := p_3) rfl hp_3, fun U hU hW => ⟨rfl, by rw [hU]; exact hP, hE.warm hW⟩⟩ rfl rfl hl.1 rfl (lv_room (Nat.le_of_ble_eq_true rfl)) dX6_greatestDepth_15 ⟨Nat.le_of_ble_eq_true rfl, Nat.le_of_ble_eq_true rfl⟩)) (fun r4 h => ?_)
        refine va_mmax hx hb (hml.trans hl.1.symm) hown (hts (.methodLink RX6 103 Lib.Math.max.name) (List.mem_of_getElem? (i := 13) rfl)) (hts (.static Lib.Math.max.name) (List.mem_of_getElem? (i := 14) rfl)) (hts (.initialized "java/lang/Math") (List.mem_of_getElem? (i := 15) rfl)) (hts (.code Lib.Math.max.name Lib.Math.max.code 2 (some .int)) (List.mem_of_getElem? (i := 16) rfl)) (Nat.le_of_ble_eq_true rfl) (by exact Nat.le_of_ble_eq_true rfl) (Nat.zero_le _) (Nat.zero_le _) dX6_greatestDepth_18 ?_
        refine lv_istore_n (lv' := [(2, .int (if x4_2 < r4 then r4 else x4_2)), (1, .ref (q 24 y4_1)), (3, .int x4_3)]) hx hb dX6_greatestDepth_21 rfl hl (by decide) rfl (fun ls hl => ?_)
        refine lv_iinc (v := x4_3 + 1) (lv' := [(3, .int (x4_3 + 1)), (2, .int (if x4_2 < r4 then r4 else x4_2)), (1, .ref (q 24 y4_1))]) hx hb dX6_greatestDepth_22 hl (k := 2) rfl rfl (by decide) rfl (fun ls hl => ?_)
        refine lv_goto (tgt := 4) hx hb dX6_greatestDepth_25 (by decide) ?_
        exact ih_4  y4_1 (if x4_2 < r4 then r4 else x4_2) (x4_3 + 1) _ h (lv_sub hl [2, 1, 0] rfl)
  obtain ⟨n_4, h⟩ := h
  exact LP_4 n_4 i1 0 0 _ h (lv_sub hl [3, 1, 0] rfl)

def wp_X6_faultAt (S : CST) (i1 : Nat) (a2 : Int32) (Post : CST → Int32 → Prop) : Prop :=
  cin S 24 i1 ∧ (wp_X8_opAt S i1 a2 (fun r2 => cin S 24 i1 ∧ (wp_X8_xAt S i1 a2 (fun r4 => wp_X0_taken S r2 r4 (fun r7 => (((r2 : Int32) < 0) → (Post S 6)) ∧ ((¬ ((r2 : Int32) < 0)) → (((20 ≤ r2) → (Post S 6)) ∧ ((¬ (20 ≤ r2)) → (wp_X6_isRightX S i1 r2 r4 (fun r11 => ((¬ ((r11 : Int32) = 0)) → (cin S 24 i1 ∧ (wp_X8_depthAt S i1 a2 (fun r14 => ((r7 ≤ r14) → (cin S 24 i1 ∧ (wp_X8_depthAt S i1 a2 (fun r17 => vp_in r2 20 ∧ ((((((r17 - r7) + (zLY (r2 : Int32).toNatClampNeg)) : Int32) ≤ 8) → ((((r2 : Int32) = 9) → (cin S 24 i1 ∧ (wp_X8_has S i1 r4 (fun r23 => ((¬ ((r23 : Int32) = 0)) → (wp_X6_comes S i1 r4 ((r17 - r7) + (zLY (r2 : Int32).toNatClampNeg)) (fun S26 r26 => ((¬ ((r26 : Int32) = 0)) → ((((r2 : Int32) = 9) → (Post S26 0)) ∧ ((¬ ((r2 : Int32) = 9)) → (((¬ ((r2 : Int32) = 12)) → (cin S26 24 i1 ∧ (wp_X8_has S26 i1 (a2 + 1) (fun r31 => ((¬ ((r31 : Int32) = 0)) → (wp_X6_comes S26 i1 (a2 + 1) ((r17 - r7) + (zLY (r2 : Int32).toNatClampNeg)) (fun S34 r34 => (((r34 : Int32) = 0) → (Post S34 3)) ∧ ((¬ ((r34 : Int32) = 0)) → (Post S34 0))))) ∧ (((r31 : Int32) = 0) → (Post S26 5)))))) ∧ (((r2 : Int32) = 12) → (Post S26 0)))))) ∧ (((r26 : Int32) = 0) → (Post S26 3))))) ∧ (((r23 : Int32) = 0) → (Post S 4)))))) ∧ ((¬ ((r2 : Int32) = 9)) → (((¬ ((r2 : Int32) = 10)) → ((((r2 : Int32) = 9) → (Post S 0)) ∧ ((¬ ((r2 : Int32) = 9)) → (((¬ ((r2 : Int32) = 12)) → (cin S 24 i1 ∧ (wp_X8_has S i1 (a2 + 1) (fun r40 => ((¬ ((r40 : Int32) = 0)) → (wp_X6_comes S i1 (a2 + 1) ((r17 - r7) + (zLY (r2 : Int32).toNatClampNeg)) (fun S43 r43 => (((r43 : Int32) = 0) → (Post S43 3)) ∧ ((¬ ((r43 : Int32) = 0)) → (Post S43 0))))) ∧ (((r40 : Int32) = 0) → (Post S 5)))))) ∧ (((r2 : Int32) = 12) → (Post S 0)))))) ∧ (((r2 : Int32) = 10) → (cin S 24 i1 ∧ (wp_X8_has S i1 r4 (fun r46 => ((¬ ((r46 : Int32) = 0)) → (wp_X6_comes S i1 r4 ((r17 - r7) + (zLY (r2 : Int32).toNatClampNeg)) (fun S49 r49 => ((¬ ((r49 : Int32) = 0)) → ((((r2 : Int32) = 9) → (Post S49 0)) ∧ ((¬ ((r2 : Int32) = 9)) → (((¬ ((r2 : Int32) = 12)) → (cin S49 24 i1 ∧ (wp_X8_has S49 i1 (a2 + 1) (fun r54 => ((¬ ((r54 : Int32) = 0)) → (wp_X6_comes S49 i1 (a2 + 1) ((r17 - r7) + (zLY (r2 : Int32).toNatClampNeg)) (fun S57 r57 => (((r57 : Int32) = 0) → (Post S57 3)) ∧ ((¬ ((r57 : Int32) = 0)) → (Post S57 0))))) ∧ (((r54 : Int32) = 0) → (Post S49 5)))))) ∧ (((r2 : Int32) = 12) → (Post S49 0)))))) ∧ (((r49 : Int32) = 0) → (Post S49 3))))) ∧ (((r46 : Int32) = 0) → (Post S 4)))))))))) ∧ ((¬ ((((r17 - r7) + (zLY (r2 : Int32).toNatClampNeg)) : Int32) ≤ 8)) → (Post S 2))))))) ∧ ((¬ (r7 ≤ r14)) → (Post S 1)))))) ∧ (((r11 : Int32) = 0) → (Post S 6))))))))))))
def zw_zd_X6_faultAt_w0 : List Cond := [.code yX8_opAt cX8_opAt 2 (some .int), .code yX8_has cX8_has 2 (some .boolean), .fieldLink RX8 41 "TemplateForge$Program" "length" "I", .methodLink RX8 44 yX8_has, .instanceMethod yX8_has, .selects RX8 yX8_has yX8_has, .initialized RX8, .fieldLink RX8 18 "TemplateForge$Program" "ops" "[I", .methodLink RX6 62 yX8_opAt, .instanceMethod yX8_opAt, .selects RX8 yX8_opAt yX8_opAt, .code yX8_xAt cX8_xAt 2 (some .int), .fieldLink RX8 22 "TemplateForge$Program" "xs" "[I", .methodLink RX6 66 yX8_xAt, .instanceMethod yX8_xAt, .selects RX8 yX8_xAt yX8_xAt]
def zw_zd_X6_faultAt_w1 : List Cond := [.fieldLink RX6 15 "TemplateForge$Looker" "book" "LTemplateForge$Book;", .code yX0_taken cX0_taken 4 (some .int), .code yX0_at cX0_at 2 (some (.object "TemplateForge$Program")), .fieldLink RX0 17 "TemplateForge$Book" "told" "I", .fieldLink RX0 11 "TemplateForge$Book" "programs" "[LTemplateForge$Program;", .methodLink RX0 24 yX0_at, .instanceMethod yX0_at, .selects RX0 yX0_at yX0_at, .initialized RX0, .fieldLink RX0 32 "TemplateForge$Program" "args" "I", .methodLink RX6 69 yX0_taken, .instanceMethod yX0_taken, .selects RX0 yX0_taken yX0_taken, .code yX6_isRightX cX6_isRightX 4 (some .boolean), .fieldLink RX6 89 "TemplateForge$Program" "locals" "I", .methodLink RX6 92 yX0_at]
def zw_zd_X6_faultAt_w2 : List Cond := [.methodLink RX6 75 yX6_isRightX, .instanceMethod yX6_isRightX, .selects RX6 yX6_isRightX yX6_isRightX, .initialized RX6, .code yX8_depthAt cX8_depthAt 2 (some .int), .fieldLink RX8 25 "TemplateForge$Program" "depths" "[I", .methodLink RX6 78 yX8_depthAt, .instanceMethod yX8_depthAt, .selects RX8 yX8_depthAt yX8_depthAt, .methodLink RX6 85 yX8_has, .code yX6_comes cX6_comes 4 (some .boolean), .code yX8_isDead cX8_isDead 2 (some .boolean), .methodLink RX6 96 yX8_isDead, .instanceMethod yX8_isDead, .selects RX8 yX8_isDead yX8_isDead, .code yX8_comeTo cX8_comeTo 3 none]
def zw_zd_X6_faultAt_w3 : List Cond := [.methodLink RX6 99 yX8_comeTo, .instanceMethod yX8_comeTo, .selects RX8 yX8_comeTo yX8_comeTo, .fieldLink RX6 9 "TemplateForge$Looker" "waiting" "[Z", .methodLink RX6 35 yX6_comes, .instanceMethod yX6_comes, .selects RX6 yX6_comes yX6_comes]
def zw_zd_X6_faultAt : List Cond := .code yX6_faultAt cX6_faultAt 7 (some .int) :: ((zw_zd_X6_faultAt_w0 ++ (zw_zd_X6_faultAt_w1 ++ (zw_zd_X6_faultAt_w2 ++ (zw_zd_X6_faultAt_w3)))) ++ wsX80 ++ wsX60 ++ wsX00)
set_option maxRecDepth 100000 in
theorem zg_zd_X6_faultAt_zd_X8_opAt_62_a : GoodIn zw_zd_X6_faultAt [.methodLink RX6 62 yX8_opAt, .instanceMethod yX8_opAt, .selects RX8 yX8_opAt yX8_opAt, .initialized RX8] := goodIn_r _ [9, 10, 11, 7] rfl (by decide +kernel)
set_option maxRecDepth 100000 in
theorem zg_zd_X6_faultAt_zd_X8_opAt_62_c : GoodIn zw_zd_X6_faultAt [.code yX8_opAt cX8_opAt 2 (some .int)] := goodIn_r _ [1] rfl (by decide +kernel)
set_option maxRecDepth 100000 in
theorem zg_zd_X6_faultAt_zd_X8_opAt_62_0 : GoodIn zw_zd_X6_faultAt zw_zd_X8_opAt_w0 := goodIn_r _ [2, 3, 4, 5, 6, 7, 8] rfl (by decide +kernel)
theorem zg_zd_X6_faultAt_zd_X8_opAt_62 : GoodIn zw_zd_X6_faultAt (wsV RX6 62 RX8 yX8_opAt zw_zd_X8_opAt) := goodIn_app zg_zd_X6_faultAt_zd_X8_opAt_62_a (goodIn_ca (a := (zw_zd_X8_opAt_w0)) (show GoodIn zw_zd_X6_faultAt (.code yX8_opAt cX8_opAt 2 (some .int) :: (zw_zd_X8_opAt_w0)) from goodIn_app zg_zd_X6_faultAt_zd_X8_opAt_62_c (zg_zd_X6_faultAt_zd_X8_opAt_62_0)) (fun w h => ⟨(fun _ h => List.mem_cons_of_mem _ (List.mem_append_left _ (List.mem_append_left _ (List.mem_append_right _ h)))) w h, good_of_word (List.all_eq_true.mp zgw_X8 w h)⟩))
set_option maxRecDepth 100000 in
theorem zg_zd_X6_faultAt_zd_X8_xAt_66_a : GoodIn zw_zd_X6_faultAt [.methodLink RX6 66 yX8_xAt, .instanceMethod yX8_xAt, .selects RX8 yX8_xAt yX8_xAt, .initialized RX8] := goodIn_r _ [14, 15, 16, 7] rfl (by decide +kernel)
set_option maxRecDepth 100000 in
theorem zg_zd_X6_faultAt_zd_X8_xAt_66_c : GoodIn zw_zd_X6_faultAt [.code yX8_xAt cX8_xAt 2 (some .int)] := goodIn_r _ [12] rfl (by decide +kernel)
set_option maxRecDepth 100000 in
theorem zg_zd_X6_faultAt_zd_X8_xAt_66_0 : GoodIn zw_zd_X6_faultAt zw_zd_X8_xAt_w0 := goodIn_r _ [2, 3, 4, 5, 6, 7, 13] rfl (by decide +kernel)
theorem zg_zd_X6_faultAt_zd_X8_xAt_66 : GoodIn zw_zd_X6_faultAt (wsV RX6 66 RX8 yX8_xAt zw_zd_X8_xAt) := goodIn_app zg_zd_X6_faultAt_zd_X8_xAt_66_a (goodIn_ca (a := (zw_zd_X8_xAt_w0)) (show GoodIn zw_zd_X6_faultAt (.code yX8_xAt cX8_xAt 2 (some .int) :: (zw_zd_X8_xAt_w0)) from goodIn_app zg_zd_X6_faultAt_zd_X8_xAt_66_c (zg_zd_X6_faultAt_zd_X8_xAt_66_0)) (fun w h => ⟨(fun _ h => List.mem_cons_of_mem _ (List.mem_append_left _ (List.mem_append_left _ (List.mem_append_right _ h)))) w h, good_of_word (List.all_eq_true.mp zgw_X8 w h)⟩))
set_option maxRecDepth 100000 in
theorem zg_zd_X6_faultAt_zd_X0_taken_69_a : GoodIn zw_zd_X6_faultAt [.methodLink RX6 69 yX0_taken, .instanceMethod yX0_taken, .selects RX0 yX0_taken yX0_taken, .initialized RX0] := goodIn_r _ [27, 28, 29, 25] rfl (by decide +kernel)
set_option maxRecDepth 100000 in
theorem zg_zd_X6_faultAt_zd_X0_taken_69_c : GoodIn zw_zd_X6_faultAt [.code yX0_taken cX0_taken 4 (some .int)] := goodIn_r _ [18] rfl (by decide +kernel)
set_option maxRecDepth 100000 in
theorem zg_zd_X6_faultAt_zd_X0_taken_69_0 : GoodIn zw_zd_X6_faultAt zw_zd_X0_taken_w0 := goodIn_r _ [19, 20, 21, 22, 23, 24, 25, 26] rfl (by decide +kernel)
theorem zg_zd_X6_faultAt_zd_X0_taken_69 : GoodIn zw_zd_X6_faultAt (wsV RX6 69 RX0 yX0_taken zw_zd_X0_taken) := goodIn_app zg_zd_X6_faultAt_zd_X0_taken_69_a (goodIn_ca (a := ((zw_zd_X0_taken_w0) ++ wsX00)) (goodIn_ca (a := (zw_zd_X0_taken_w0)) (show GoodIn zw_zd_X6_faultAt (.code yX0_taken cX0_taken 4 (some .int) :: (zw_zd_X0_taken_w0)) from goodIn_app zg_zd_X6_faultAt_zd_X0_taken_69_c (zg_zd_X6_faultAt_zd_X0_taken_69_0)) (fun w h => ⟨(fun _ h => List.mem_cons_of_mem _ (List.mem_append_right _ h)) w h, good_of_word (List.all_eq_true.mp zgw_X0 w h)⟩)) (fun w h => ⟨(fun _ h => List.mem_cons_of_mem _ (List.mem_append_left _ (List.mem_append_left _ (List.mem_append_right _ h)))) w h, good_of_word (List.all_eq_true.mp zgw_X8 w h)⟩))
set_option maxRecDepth 100000 in
theorem zg_zd_X6_faultAt_zd_X6_isRightX_75_a : GoodIn zw_zd_X6_faultAt [.methodLink RX6 75 yX6_isRightX, .instanceMethod yX6_isRightX, .selects RX6 yX6_isRightX yX6_isRightX, .initialized RX6] := goodIn_r _ [33, 34, 35, 36] rfl (by decide +kernel)
set_option maxRecDepth 100000 in
theorem zg_zd_X6_faultAt_zd_X6_isRightX_75_c : GoodIn zw_zd_X6_faultAt [.code yX6_isRightX cX6_isRightX 4 (some .boolean)] := goodIn_r _ [30] rfl (by decide +kernel)
set_option maxRecDepth 100000 in
theorem zg_zd_X6_faultAt_zd_X6_isRightX_75_0 : GoodIn zw_zd_X6_faultAt zw_zd_X6_isRightX_w0 := goodIn_r _ [31, 17, 19, 20, 21, 32, 23, 24, 25] rfl (by decide +kernel)
theorem zg_zd_X6_faultAt_zd_X6_isRightX_75 : GoodIn zw_zd_X6_faultAt (wsV RX6 75 RX6 yX6_isRightX zw_zd_X6_isRightX) := goodIn_app zg_zd_X6_faultAt_zd_X6_isRightX_75_a (goodIn_ca (a := (((zw_zd_X6_isRightX_w0) ++ wsX80) ++ wsX60)) (goodIn_ca (a := ((zw_zd_X6_isRightX_w0) ++ wsX80)) (goodIn_ca (a := (zw_zd_X6_isRightX_w0)) (show GoodIn zw_zd_X6_faultAt (.code yX6_isRightX cX6_isRightX 4 (some .boolean) :: (zw_zd_X6_isRightX_w0)) from goodIn_app zg_zd_X6_faultAt_zd_X6_isRightX_75_c (zg_zd_X6_faultAt_zd_X6_isRightX_75_0)) (fun w h => ⟨(fun _ h => List.mem_cons_of_mem _ (List.mem_append_left _ (List.mem_append_left _ (List.mem_append_right _ h)))) w h, good_of_word (List.all_eq_true.mp zgw_X8 w h)⟩)) (fun w h => ⟨(fun _ h => List.mem_cons_of_mem _ (List.mem_append_left _ (List.mem_append_right _ h))) w h, good_of_word (List.all_eq_true.mp zgw_X6 w h)⟩)) (fun w h => ⟨(fun _ h => List.mem_cons_of_mem _ (List.mem_append_right _ h)) w h, good_of_word (List.all_eq_true.mp zgw_X0 w h)⟩))
set_option maxRecDepth 100000 in
theorem zg_zd_X6_faultAt_zd_X8_depthAt_78_a : GoodIn zw_zd_X6_faultAt [.methodLink RX6 78 yX8_depthAt, .instanceMethod yX8_depthAt, .selects RX8 yX8_depthAt yX8_depthAt, .initialized RX8] := goodIn_r _ [39, 40, 41, 7] rfl (by decide +kernel)
set_option maxRecDepth 100000 in
theorem zg_zd_X6_faultAt_zd_X8_depthAt_78_c : GoodIn zw_zd_X6_faultAt [.code yX8_depthAt cX8_depthAt 2 (some .int)] := goodIn_r _ [37] rfl (by decide +kernel)
set_option maxRecDepth 100000 in
theorem zg_zd_X6_faultAt_zd_X8_depthAt_78_0 : GoodIn zw_zd_X6_faultAt zw_zd_X8_depthAt_w0 := goodIn_r _ [2, 3, 4, 5, 6, 7, 38] rfl (by decide +kernel)
theorem zg_zd_X6_faultAt_zd_X8_depthAt_78 : GoodIn zw_zd_X6_faultAt (wsV RX6 78 RX8 yX8_depthAt zw_zd_X8_depthAt) := goodIn_app zg_zd_X6_faultAt_zd_X8_depthAt_78_a (goodIn_ca (a := (zw_zd_X8_depthAt_w0)) (show GoodIn zw_zd_X6_faultAt (.code yX8_depthAt cX8_depthAt 2 (some .int) :: (zw_zd_X8_depthAt_w0)) from goodIn_app zg_zd_X6_faultAt_zd_X8_depthAt_78_c (zg_zd_X6_faultAt_zd_X8_depthAt_78_0)) (fun w h => ⟨(fun _ h => List.mem_cons_of_mem _ (List.mem_append_left _ (List.mem_append_left _ (List.mem_append_right _ h)))) w h, good_of_word (List.all_eq_true.mp zgw_X8 w h)⟩))
set_option maxRecDepth 100000 in
theorem zg_zd_X6_faultAt_zd_X8_has_85_a : GoodIn zw_zd_X6_faultAt [.methodLink RX6 85 yX8_has, .instanceMethod yX8_has, .selects RX8 yX8_has yX8_has, .initialized RX8] := goodIn_r _ [42, 5, 6, 7] rfl (by decide +kernel)
set_option maxRecDepth 100000 in
theorem zg_zd_X6_faultAt_zd_X8_has_85_c : GoodIn zw_zd_X6_faultAt [.code yX8_has cX8_has 2 (some .boolean)] := goodIn_r _ [2] rfl (by decide +kernel)
set_option maxRecDepth 100000 in
theorem zg_zd_X6_faultAt_zd_X8_has_85_0 : GoodIn zw_zd_X6_faultAt zw_zd_X8_has_w0 := goodIn_r _ [3] rfl (by decide +kernel)
theorem zg_zd_X6_faultAt_zd_X8_has_85 : GoodIn zw_zd_X6_faultAt (wsV RX6 85 RX8 yX8_has zw_zd_X8_has) := goodIn_app zg_zd_X6_faultAt_zd_X8_has_85_a (goodIn_ca (a := (zw_zd_X8_has_w0)) (show GoodIn zw_zd_X6_faultAt (.code yX8_has cX8_has 2 (some .boolean) :: (zw_zd_X8_has_w0)) from goodIn_app zg_zd_X6_faultAt_zd_X8_has_85_c (zg_zd_X6_faultAt_zd_X8_has_85_0)) (fun w h => ⟨(fun _ h => List.mem_cons_of_mem _ (List.mem_append_left _ (List.mem_append_left _ (List.mem_append_right _ h)))) w h, good_of_word (List.all_eq_true.mp zgw_X8 w h)⟩))
set_option maxRecDepth 100000 in
theorem zg_zd_X6_faultAt_zd_X6_comes_35_a : GoodIn zw_zd_X6_faultAt [.methodLink RX6 35 yX6_comes, .instanceMethod yX6_comes, .selects RX6 yX6_comes yX6_comes, .initialized RX6] := goodIn_r _ [53, 54, 55, 36] rfl (by decide +kernel)
set_option maxRecDepth 100000 in
theorem zg_zd_X6_faultAt_zd_X6_comes_35_c : GoodIn zw_zd_X6_faultAt [.code yX6_comes cX6_comes 4 (some .boolean)] := goodIn_r _ [43] rfl (by decide +kernel)
set_option maxRecDepth 100000 in
theorem zg_zd_X6_faultAt_zd_X6_comes_35_0 : GoodIn zw_zd_X6_faultAt zw_zd_X6_comes_w0 := goodIn_r _ [44, 2, 3, 4, 5, 6, 7, 38, 45, 46, 47, 37, 39, 40, 41, 48] rfl (by decide +kernel)
set_option maxRecDepth 100000 in
theorem zg_zd_X6_faultAt_zd_X6_comes_35_1 : GoodIn zw_zd_X6_faultAt zw_zd_X6_comes_w1 := goodIn_r _ [49, 50, 51, 52] rfl (by decide +kernel)
theorem zg_zd_X6_faultAt_zd_X6_comes_35 : GoodIn zw_zd_X6_faultAt (wsV RX6 35 RX6 yX6_comes zw_zd_X6_comes) := goodIn_app zg_zd_X6_faultAt_zd_X6_comes_35_a (goodIn_ca (a := ((zw_zd_X6_comes_w0 ++ (zw_zd_X6_comes_w1)) ++ wsX80)) (goodIn_ca (a := (zw_zd_X6_comes_w0 ++ (zw_zd_X6_comes_w1))) (show GoodIn zw_zd_X6_faultAt (.code yX6_comes cX6_comes 4 (some .boolean) :: (zw_zd_X6_comes_w0 ++ (zw_zd_X6_comes_w1))) from goodIn_app zg_zd_X6_faultAt_zd_X6_comes_35_c (goodIn_app zg_zd_X6_faultAt_zd_X6_comes_35_0 (zg_zd_X6_faultAt_zd_X6_comes_35_1))) (fun w h => ⟨(fun _ h => List.mem_cons_of_mem _ (List.mem_append_left _ (List.mem_append_left _ (List.mem_append_right _ h)))) w h, good_of_word (List.all_eq_true.mp zgw_X8 w h)⟩)) (fun w h => ⟨(fun _ h => List.mem_cons_of_mem _ (List.mem_append_left _ (List.mem_append_right _ h))) w h, good_of_word (List.all_eq_true.mp zgw_X6 w h)⟩))
set_option maxHeartbeats 16000000 in
set_option maxRecDepth 100000 in
theorem zd_X6_faultAt (l : Launch) (D : va_G) (cI cZ cP cF : Nat) (q : Nat → Nat → Nat) (S : CST) (i1 : Nat) (a2 : Int32) (sz : Nat) (Post : CST → Int32 → Prop) (h : wp_X6_faultAt S i1 a2 Post) : Met l yX6_faultAt zw_zd_X6_faultAt ({ frames := 3, cells := 0, slots := 0, locals := 66 }) (va_Pc [.ref (q 10 0), .ref (q 24 i1), .int a2] (fun U => U.heap.size = sz ∧ va_P D vwCl (cW cI cZ cP cF q S) U.heap ∧ zF D cI cZ cP cF U ∧ va_D (fun _ => True) (cW cI cZ cP cF q S) ∧ zT (zNm (cW cI cZ cP cF q S)) U U.heap)) (va_Qi (fun r S' => Post S' r) (fun (S' : CST) t => va_P D vwCl (cW cI cZ cP cF q S') t.heap ∧ va_D (va_A (cW cI cZ cP cF q S) sz) (cW cI cZ cP cF q S') ∧ S'.2 = S.2) (va_A (cW cI cZ cP cF q S) sz)) 0 0 (va_A (cW cI cZ cP cF q S) sz) := by
  unfold wp_X6_faultAt at h
  refine Met.ofW (cc := cX6_faultAt) (maxL := 7) (ret := (some .int)) (by decide) rfl ?_
  intro p e s m args below meth c s₁ B hml hv
  obtain ⟨rfl, hsz, hP, hE, hD0, hT0⟩ := hv
  have hx := B.exec
  have hb := B.bytes
  have hr := B.returns
  have hts := atoms_spec (ws := zw_zd_X6_faultAt) B.pre
  have hown : s.vm.findClass RX6 = some m.cls := findClass_of_methodNamed B.named
  have hlocks := B.notSynchronized
  have hK := hE.k
  subst hsz
  have hD := hD0.self (sz := s.heap.size)
  have hT := zT_self hT0
  generalize hAe : va_A (cW cI cZ cP cF q S) s.heap.size = A at hD hT ⊢
  have hA : ∀ q : Nat, s.heap.size ≤ q → A q := fun q h => by rw [← hAe]; exact Or.inr h
  have hN : S.2 = S.2 := rfl
  have hl := lv_entry ([.ref (q 10 0), .ref (q 24 i1), .int a2]) (n := 7) (Nat.le_of_ble_eq_true rfl)
  rw [lg_entry_eq]
  generalize (lg_sl ([.ref (q 10 0), .ref (q 24 i1), .int a2]) ++ List.replicate (7 - (lg_sl ([.ref (q 10 0), .ref (q 24 i1), .int a2])).length) Slot.unset).toArray = ls at hl ⊢
  have hl : lv_has ls 7 [(0, .ref (q 10 0)), (1, .ref (q 24 i1)), (2, .int a2)] := hl
  have key : ∀ (H : Heap) (locs : List Loc), va_P D vwCl (cW cI cZ cP cF q S) H → va_S A s.heap H locs → W p l e (headSpec zw_zd_X6_faultAt ({ frames := 3, cells := 0, slots := 0, locals := 66 })).room s m ([.ref (q 10 0), .ref (q 24 i1), .int a2] : List Value).toArray below meth c H locs 0 0 (MQ below (va_Qi (fun r S' => Post S' r) (fun (S' : CST) t => va_P D vwCl (cW cI cZ cP cF q S') t.heap ∧ va_D A (cW cI cZ cP cF q S') ∧ S'.2 = S.2) A) ([.ref (q 10 0), .ref (q 24 i1), .int a2] : List Value).toArray s 0 0 A) (F0 m 0 ls []) := by
    intro H locs hP hS
    refine lv_aload_n hx hb dX6_faultAt_0 rfl (lv_at hl 1 rfl) ?_
    refine lv_iload_n hx hb dX6_faultAt_1 rfl (lv_at hl 2 rfl) ?_
    have hi_1 := h.1
    have h := h.2
    obtain ⟨p_1, hp_1⟩ := cget_24 cI cZ cP cF q S hi_1
    refine vp_callSi (va_Run.run (va_runV (As := [.int a2]) (rest := []) ⟨hx, hb, hml, hown, hts⟩ (zd_X8_opAt l D cI cZ cP cF q S i1 a2  _ h) (cwV 1 hts zg_zd_X6_faultAt_zd_X8_opAt_62 rfl rfl rfl (by decide +kernel) ⟨Nat.le_of_ble_eq_true rfl, Nat.le_of_ble_eq_true rfl⟩) ⟨zCR, va_recv hK hP (ci := 8) (q0 := p_1) rfl hp_1, fun U hU hW => ⟨rfl, by rw [hU]; exact hP, hE.warm hW⟩⟩ rfl rfl hl.1 rfl (lv_room (Nat.le_of_ble_eq_true rfl)) dX6_faultAt_2 ⟨Nat.le_of_ble_eq_true rfl, Nat.le_of_ble_eq_true rfl⟩)) (fun r2 h => ?_)
    refine lv_istore_n (lv' := [(3, .int r2), (0, .ref (q 10 0)), (1, .ref (q 24 i1)), (2, .int a2)]) hx hb dX6_faultAt_5 rfl hl (by decide) rfl (fun ls hl => ?_)
    refine lv_aload_n hx hb dX6_faultAt_6 rfl (lv_at hl 2 rfl) ?_
    refine lv_iload_n hx hb dX6_faultAt_7 rfl (lv_at hl 3 rfl) ?_
    have hi_3 := h.1
    have h := h.2
    obtain ⟨p_3, hp_3⟩ := cget_24 cI cZ cP cF q S hi_3
    refine vp_callSi (va_Run.run (va_runV (As := [.int a2]) (rest := []) ⟨hx, hb, hml, hown, hts⟩ (zd_X8_xAt l D cI cZ cP cF q S i1 a2  _ h) (cwV 1 hts zg_zd_X6_faultAt_zd_X8_xAt_66 rfl rfl rfl (by decide +kernel) ⟨Nat.le_of_ble_eq_true rfl, Nat.le_of_ble_eq_true rfl⟩) ⟨zCR, va_recv hK hP (ci := 8) (q0 := p_3) rfl hp_3, fun U hU hW => ⟨rfl, by rw [hU]; exact hP, hE.warm hW⟩⟩ rfl rfl hl.1 rfl (lv_room (Nat.le_of_ble_eq_true rfl)) dX6_faultAt_8 ⟨Nat.le_of_ble_eq_true rfl, Nat.le_of_ble_eq_true rfl⟩)) (fun r4 h => ?_)
    refine lv_istore (lv' := [(4, .int r4), (3, .int r2), (0, .ref (q 10 0)), (1, .ref (q 24 i1)), (2, .int a2)]) hx hb dX6_faultAt_11 hl (by decide) rfl (fun ls hl => ?_)
    refine lv_aload_n hx hb dX6_faultAt_13 rfl (lv_at hl 2 rfl) ?_
    obtain ⟨p_5, hp_5⟩ := cget_10 cI cZ cP cF q S
    have hi_5 : cin S 10 0 := Or.inl ⟨by decide, rfl⟩
    refine va_get (D := D) (ci := 6) (v := .ref (q 1 0)) (C := RX6) (T := TX6) (N := 4) hx hb hts (fun _ h => List.mem_cons_of_mem _ (List.mem_append_left _ (List.mem_append_right _ h))) hown hK hP p_5 hp_5 rfl 0 (by decide) (hts (.fieldLink RX6 15 "TemplateForge$Looker" "book" "LTemplateForge$Book;") (List.mem_of_getElem? (i := 17) rfl)) (fun _ h9 => h9) rfl dX6_faultAt_14 ?_
    refine lv_iload_n hx hb dX6_faultAt_17 rfl (lv_at hl 1 rfl) ?_
    refine lv_iload hx hb dX6_faultAt_18 (lv_at hl 0 rfl) ?_
    obtain ⟨p_6, hp_6⟩ := cget_1 cI cZ cP cF q S
    have hi_6 : cin S 1 0 := Or.inl ⟨by decide, rfl⟩
    refine vp_callSi (va_Run.run (va_runV (As := [.int r2, .int r4]) (rest := []) ⟨hx, hb, hml, hown, hts⟩ (zd_X0_taken l D cI cZ cP cF q S r2 r4  _ h) (cwV 2 hts zg_zd_X6_faultAt_zd_X0_taken_69 rfl rfl rfl (by decide +kernel) ⟨Nat.le_of_ble_eq_true rfl, Nat.le_of_ble_eq_true rfl⟩) ⟨zCRs, va_recv hK hP (ci := 0) (q0 := p_6) rfl hp_6, fun U hU hW => ⟨rfl, by rw [hU]; exact hP, hE.warm hW, zT_move hT hS (fun _ w => w.elim) hW.alike hU⟩⟩ rfl rfl hl.1 rfl (lv_room (Nat.le_of_ble_eq_true rfl)) dX6_faultAt_20 ⟨Nat.le_of_ble_eq_true rfl, Nat.le_of_ble_eq_true rfl⟩)) (fun r7 h => ?_)
    refine lv_istore (lv' := [(5, .int r7), (4, .int r4), (3, .int r2), (0, .ref (q 10 0)), (1, .ref (q 24 i1)), (2, .int a2)]) hx hb dX6_faultAt_23 hl (by decide) rfl (fun ls hl => ?_)
    refine lv_iload_n hx hb dX6_faultAt_25 rfl (lv_at hl 2 rfl) ?_
    refine lv_if_lt (tgt := 46) hx hb dX6_faultAt_26 (by decide) (fun c_8 => ?_) (fun c_8 => ?_)
    · have h := h.1 c_8
      refine lv_bipush (v := 6) hx hb dX6_faultAt_46 (by decide) ?_
      exact W.iret (v := 6) hx hb hr (fun t ht hW => ⟨⟨_, S, rfl, h, by rw [ht]; exact hP, hD, hN⟩, hS.F ht⟩) hS.2.2 dX6_faultAt_48
    · have h := h.2 c_8
      refine lv_iload_n hx hb dX6_faultAt_29 rfl (lv_at hl 2 rfl) ?_
      refine lv_bipush (v := 20) hx hb dX6_faultAt_30 (by decide) ?_
      refine lv_icmp_ge (tgt := 46) hx hb dX6_faultAt_32 (by decide) (fun c_9 => ?_) (fun c_9 => ?_)
      · have h := h.1 c_9
        refine lv_bipush (v := 6) hx hb dX6_faultAt_46 (by decide) ?_
        exact W.iret (v := 6) hx hb hr (fun t ht hW => ⟨⟨_, S, rfl, h, by rw [ht]; exact hP, hD, hN⟩, hS.F ht⟩) hS.2.2 dX6_faultAt_48
      · have h := h.2 c_9
        refine lv_aload_n hx hb dX6_faultAt_35 rfl (lv_at hl 3 rfl) ?_
        refine lv_aload_n hx hb dX6_faultAt_36 rfl (lv_at hl 4 rfl) ?_
        refine lv_iload_n hx hb dX6_faultAt_37 rfl (lv_at hl 2 rfl) ?_
        refine lv_iload hx hb dX6_faultAt_38 (lv_at hl 1 rfl) ?_
        obtain ⟨p_10, hp_10⟩ := cget_10 cI cZ cP cF q S
        have hi_10 : cin S 10 0 := Or.inl ⟨by decide, rfl⟩
        refine vp_callSi (va_Run.run (va_runV (As := [.ref (q 24 i1), .int r2, .int r4]) (rest := []) ⟨hx, hb, hml, hown, hts⟩ (zd_X6_isRightX l D cI cZ cP cF q S i1 r2 r4  _ h) (cwV 3 hts zg_zd_X6_faultAt_zd_X6_isRightX_75 rfl rfl rfl (by decide +kernel) ⟨Nat.le_of_ble_eq_true rfl, Nat.le_of_ble_eq_true rfl⟩) ⟨zCR, va_recv hK hP (ci := 6) (q0 := p_10) rfl hp_10, fun U hU hW => ⟨rfl, by rw [hU]; exact hP, hE.warm hW⟩⟩ rfl rfl hl.1 rfl (lv_room (Nat.le_of_ble_eq_true rfl)) dX6_faultAt_40 ⟨Nat.le_of_ble_eq_true rfl, Nat.le_of_ble_eq_true rfl⟩)) (fun r11 h => ?_)
        refine lv_if_ne (tgt := 49) hx hb dX6_faultAt_43 (by decide) (fun c_12 => ?_) (fun c_12 => ?_)
        · have h := h.1 c_12
          refine lv_aload_n hx hb dX6_faultAt_49 rfl (lv_at hl 4 rfl) ?_
          refine lv_iload_n hx hb dX6_faultAt_50 rfl (lv_at hl 5 rfl) ?_
          have hi_13 := h.1
          have h := h.2
          obtain ⟨p_13, hp_13⟩ := cget_24 cI cZ cP cF q S hi_13
          refine vp_callSi (va_Run.run (va_runV (As := [.int a2]) (rest := []) ⟨hx, hb, hml, hown, hts⟩ (zd_X8_depthAt l D cI cZ cP cF q S i1 a2  _ h) (cwV 1 hts zg_zd_X6_faultAt_zd_X8_depthAt_78 rfl rfl rfl (by decide +kernel) ⟨Nat.le_of_ble_eq_true rfl, Nat.le_of_ble_eq_true rfl⟩) ⟨zCR, va_recv hK hP (ci := 8) (q0 := p_13) rfl hp_13, fun U hU hW => ⟨rfl, by rw [hU]; exact hP, hE.warm hW⟩⟩ rfl rfl hl.1 rfl (lv_room (Nat.le_of_ble_eq_true rfl)) dX6_faultAt_51 ⟨Nat.le_of_ble_eq_true rfl, Nat.le_of_ble_eq_true rfl⟩)) (fun r14 h => ?_)
          refine lv_iload hx hb dX6_faultAt_54 (lv_at hl 0 rfl) ?_
          refine lv_icmp_ge (tgt := 61) hx hb dX6_faultAt_56 (by decide) (fun c_15 => ?_) (fun c_15 => ?_)
          · have h := h.1 c_15
            refine lv_aload_n hx hb dX6_faultAt_61 rfl (lv_at hl 4 rfl) ?_
            refine lv_iload_n hx hb dX6_faultAt_62 rfl (lv_at hl 5 rfl) ?_
            have hi_16 := h.1
            have h := h.2
            obtain ⟨p_16, hp_16⟩ := cget_24 cI cZ cP cF q S hi_16
            refine vp_callSi (va_Run.run (va_runV (As := [.int a2]) (rest := []) ⟨hx, hb, hml, hown, hts⟩ (zd_X8_depthAt l D cI cZ cP cF q S i1 a2  _ h) (cwV 1 hts zg_zd_X6_faultAt_zd_X8_depthAt_78 rfl rfl rfl (by decide +kernel) ⟨Nat.le_of_ble_eq_true rfl, Nat.le_of_ble_eq_true rfl⟩) ⟨zCR, va_recv hK hP (ci := 8) (q0 := p_16) rfl hp_16, fun U hU hW => ⟨rfl, by rw [hU]; exact hP, hE.warm hW⟩⟩ rfl rfl hl.1 rfl (lv_room (Nat.le_of_ble_eq_true rfl)) dX6_faultAt_63 ⟨Nat.le_of_ble_eq_true rfl, Nat.le_of_ble_eq_true rfl⟩)) (fun r17 h => ?_)
            refine lv_iload hx hb dX6_faultAt_66 (lv_at hl 0 rfl) ?_
            refine lv_isub hx hb dX6_faultAt_68 ?_
            obtain ⟨t1_18, t2_18, hz1_18, hz2_18, hz3_18, hz4_18⟩ := hT
            refine va_getsN hx hb hz3_18 hS hown (va_Nw.use rfl hE.fX6_81) (fun _ h9 => h9) dX6_faultAt_69 ?_
            refine lv_iload_n hx hb dX6_faultAt_72 rfl (lv_at hl 2 rfl) ?_
            have hin_19 := h.1
            have h := h.2
            refine va_ti hx hb hz4_18 hS hin_19 rfl dX6_faultAt_73 ?_
            refine lv_iadd hx hb dX6_faultAt_74 ?_
            refine lv_istore (lv' := [(6, .int ((r17 - r7) + (zLY (r2 : Int32).toNatClampNeg))), (5, .int r7), (4, .int r4), (3, .int r2), (0, .ref (q 10 0)), (1, .ref (q 24 i1)), (2, .int a2)]) hx hb dX6_faultAt_75 hl (by decide) rfl (fun ls hl => ?_)
            refine lv_iload hx hb dX6_faultAt_77 (lv_at hl 0 rfl) ?_
            refine lv_bipush (v := 8) hx hb dX6_faultAt_79 (by decide) ?_
            refine lv_icmp_le (tgt := 86) hx hb dX6_faultAt_81 (by decide) (fun c_20 => ?_) (fun c_20 => ?_)
            · have h := h.1 c_20
              refine lv_iload_n hx hb dX6_faultAt_86 rfl (lv_at hl 3 rfl) ?_
              refine lv_bipush (v := 9) hx hb dX6_faultAt_87 (by decide) ?_
              refine lv_icmp_eq (tgt := 98) hx hb dX6_faultAt_89 (by decide) (fun c_21 => ?_) (fun c_21 => ?_)
              · have h := h.1 c_21
                refine lv_aload_n hx hb dX6_faultAt_98 rfl (lv_at hl 5 rfl) ?_
                refine lv_iload hx hb dX6_faultAt_99 (lv_at hl 2 rfl) ?_
                have hi_22 := h.1
                have h := h.2
                obtain ⟨p_22, hp_22⟩ := cget_24 cI cZ cP cF q S hi_22
                refine vp_callSi (va_Run.run (va_runV (As := [.int r4]) (rest := []) ⟨hx, hb, hml, hown, hts⟩ (zd_X8_has l D cI cZ cP cF q S i1 r4  _ h) (cwV 1 hts zg_zd_X6_faultAt_zd_X8_has_85 rfl rfl rfl (by decide +kernel) ⟨Nat.le_of_ble_eq_true rfl, Nat.le_of_ble_eq_true rfl⟩) ⟨zCR, va_recv hK hP (ci := 8) (q0 := p_22) rfl hp_22, fun U hU hW => ⟨rfl, by rw [hU]; exact hP, hE.warm hW⟩⟩ rfl rfl hl.1 rfl (lv_room (Nat.le_of_ble_eq_true rfl)) dX6_faultAt_101 ⟨Nat.le_of_ble_eq_true rfl, Nat.le_of_ble_eq_true rfl⟩)) (fun r23 h => ?_)
                refine lv_if_ne (tgt := 109) hx hb dX6_faultAt_104 (by decide) (fun c_24 => ?_) (fun c_24 => ?_)
                · have h := h.1 c_24
                  refine lv_aload_n hx hb dX6_faultAt_109 rfl (lv_at hl 4 rfl) ?_
                  refine lv_aload_n hx hb dX6_faultAt_110 rfl (lv_at hl 5 rfl) ?_
                  refine lv_iload hx hb dX6_faultAt_111 (lv_at hl 2 rfl) ?_
                  refine lv_iload hx hb dX6_faultAt_113 (lv_at hl 0 rfl) ?_
                  obtain ⟨p_25, hp_25⟩ := cget_10 cI cZ cP cF q S
                  have hi_25 : cin S 10 0 := Or.inl ⟨by decide, rfl⟩
                  have hFc := zm_free hD hS hA
                  refine va_calli (va_runV (As := [.ref (q 24 i1), .int r4, .int ((r17 - r7) + (zLY (r2 : Int32).toNatClampNeg))]) (rest := []) ⟨hx, hb, hml, hown, hts⟩ (zd_X6_comes l D cI cZ cP cF q S i1 r4 ((r17 - r7) + (zLY (r2 : Int32).toNatClampNeg)) H.size _ h) (cwV 3 hts zg_zd_X6_faultAt_zd_X6_comes_35 rfl rfl rfl (by decide +kernel) ⟨Nat.le_of_ble_eq_true rfl, Nat.le_of_ble_eq_true rfl⟩) ⟨zCW, va_recv hK hP (ci := 6) (q0 := p_25) rfl hp_25, fun U hU hW => ⟨rfl, by rw [hU], by rw [hU]; exact hP, hE.warm hW, hD.weaken (fun _ _ _ _ => trivial)⟩⟩ rfl rfl hl.1 rfl (lv_room (Nat.le_of_ble_eq_true rfl)) dX6_faultAt_115 ⟨Nat.le_of_ble_eq_true rfl, Nat.le_of_ble_eq_true rfl⟩) hS (fun q _ h => hFc q h) hFc (fun r26 S26 t H locs ht hvm h hB hz1 hk1 hS => ?_)
                  obtain ⟨hP, hD1, hN1⟩ := hB
                  rw [ht] at hP
                  have hD := hD1.weaken (fun k q _ hq => hFc q.1 hq)
                  have hN := hN1.trans hN
                  refine lv_if_ne (tgt := 123) hx hb dX6_faultAt_118 (by decide) (fun c_27 => ?_) (fun c_27 => ?_)
                  · have h := h.1 c_27
                    refine lv_iload_n hx hb dX6_faultAt_123 rfl (lv_at hl 3 rfl) ?_
                    refine lv_bipush (v := 9) hx hb dX6_faultAt_124 (by decide) ?_
                    refine lv_icmp_eq (tgt := 135) hx hb dX6_faultAt_126 (by decide) (fun c_28 => ?_) (fun c_28 => ?_)
                    · have h := h.1 c_28
                      refine lv_iconst (v := 0) hx hb dX6_faultAt_135 (by decide) ?_
                      exact W.iret (v := 0) hx hb hr (fun t ht hW => ⟨⟨_, S26, rfl, h, by rw [ht]; exact hP, hD, hN⟩, hS.F ht⟩) hS.2.2 dX6_faultAt_136
                    · have h := h.2 c_28
                      refine lv_iload_n hx hb dX6_faultAt_129 rfl (lv_at hl 3 rfl) ?_
                      refine lv_bipush (v := 12) hx hb dX6_faultAt_130 (by decide) ?_
                      refine lv_icmp_ne (tgt := 137) hx hb dX6_faultAt_132 (by decide) (fun c_29 => ?_) (fun c_29 => ?_)
                      · have h := h.1 c_29
                        refine lv_aload_n hx hb dX6_faultAt_137 rfl (lv_at hl 5 rfl) ?_
                        refine lv_iload_n hx hb dX6_faultAt_138 rfl (lv_at hl 6 rfl) ?_
                        refine lv_iconst (v := 1) hx hb dX6_faultAt_139 (by decide) ?_
                        refine lv_iadd hx hb dX6_faultAt_140 ?_
                        have hi_30 := h.1
                        have h := h.2
                        obtain ⟨p_30, hp_30⟩ := cget_24 cI cZ cP cF q S26 hi_30
                        refine vp_callSi (va_Run.run (va_runV (As := [.int (a2 + 1)]) (rest := []) ⟨hx, hb, hml, hown, hts⟩ (zd_X8_has l D cI cZ cP cF q S26 i1 (a2 + 1)  _ h) (cwV 1 hts zg_zd_X6_faultAt_zd_X8_has_85 rfl rfl rfl (by decide +kernel) ⟨Nat.le_of_ble_eq_true rfl, Nat.le_of_ble_eq_true rfl⟩) ⟨zCR, va_recv hK hP (ci := 8) (q0 := p_30) rfl hp_30, fun U hU hW => ⟨rfl, by rw [hU]; exact hP, hE.warm hW⟩⟩ rfl rfl hl.1 rfl (lv_room (Nat.le_of_ble_eq_true rfl)) dX6_faultAt_141 ⟨Nat.le_of_ble_eq_true rfl, Nat.le_of_ble_eq_true rfl⟩)) (fun r31 h => ?_)
                        refine lv_if_ne (tgt := 149) hx hb dX6_faultAt_144 (by decide) (fun c_32 => ?_) (fun c_32 => ?_)
                        · have h := h.1 c_32
                          refine lv_aload_n hx hb dX6_faultAt_149 rfl (lv_at hl 4 rfl) ?_
                          refine lv_aload_n hx hb dX6_faultAt_150 rfl (lv_at hl 5 rfl) ?_
                          refine lv_iload_n hx hb dX6_faultAt_151 rfl (lv_at hl 6 rfl) ?_
                          refine lv_iconst (v := 1) hx hb dX6_faultAt_152 (by decide) ?_
                          refine lv_iadd hx hb dX6_faultAt_153 ?_
                          refine lv_iload hx hb dX6_faultAt_154 (lv_at hl 0 rfl) ?_
                          obtain ⟨p_33, hp_33⟩ := cget_10 cI cZ cP cF q S26
                          have hi_33 : cin S26 10 0 := Or.inl ⟨by decide, rfl⟩
                          have hFc := zm_free hD hS hA
                          refine va_calli (va_runV (As := [.ref (q 24 i1), .int (a2 + 1), .int ((r17 - r7) + (zLY (r2 : Int32).toNatClampNeg))]) (rest := []) ⟨hx, hb, hml, hown, hts⟩ (zd_X6_comes l D cI cZ cP cF q S26 i1 (a2 + 1) ((r17 - r7) + (zLY (r2 : Int32).toNatClampNeg)) H.size _ h) (cwV 3 hts zg_zd_X6_faultAt_zd_X6_comes_35 rfl rfl rfl (by decide +kernel) ⟨Nat.le_of_ble_eq_true rfl, Nat.le_of_ble_eq_true rfl⟩) ⟨zCW, va_recv hK hP (ci := 6) (q0 := p_33) rfl hp_33, fun U hU hW => ⟨rfl, by rw [hU], by rw [hU]; exact hP, hE.warm hW, hD.weaken (fun _ _ _ _ => trivial)⟩⟩ rfl rfl hl.1 rfl (lv_room (Nat.le_of_ble_eq_true rfl)) dX6_faultAt_156 ⟨Nat.le_of_ble_eq_true rfl, Nat.le_of_ble_eq_true rfl⟩) hS (fun q _ h => hFc q h) hFc (fun r34 S34 t H locs ht hvm h hB hz1 hk1 hS => ?_)
                          obtain ⟨hP, hD1, hN1⟩ := hB
                          rw [ht] at hP
                          have hD := hD1.weaken (fun k q _ hq => hFc q.1 hq)
                          have hN := hN1.trans hN
                          refine lv_if_eq (tgt := 166) hx hb dX6_faultAt_159 (by decide) (fun c_35 => ?_) (fun c_35 => ?_)
                          · have h := h.1 c_35
                            refine lv_iconst (v := 3) hx hb dX6_faultAt_166 (by decide) ?_
                            exact W.iret (v := 3) hx hb hr (fun t ht hW => ⟨⟨_, S34, rfl, h, by rw [ht]; exact hP, hD, hN⟩, hS.F ht⟩) hS.2.2 dX6_faultAt_167
                          · have h := h.2 c_35
                            refine lv_iconst (v := 0) hx hb dX6_faultAt_162 (by decide) ?_
                            refine lv_goto (tgt := 167) hx hb dX6_faultAt_163 (by decide) ?_
                            exact W.iret (v := 0) hx hb hr (fun t ht hW => ⟨⟨_, S34, rfl, h, by rw [ht]; exact hP, hD, hN⟩, hS.F ht⟩) hS.2.2 dX6_faultAt_167
                        · have h := h.2 c_32
                          refine lv_iconst (v := 5) hx hb dX6_faultAt_147 (by decide) ?_
                          exact W.iret (v := 5) hx hb hr (fun t ht hW => ⟨⟨_, S26, rfl, h, by rw [ht]; exact hP, hD, hN⟩, hS.F ht⟩) hS.2.2 dX6_faultAt_148
                      · have h := h.2 c_29
                        refine lv_iconst (v := 0) hx hb dX6_faultAt_135 (by decide) ?_
                        exact W.iret (v := 0) hx hb hr (fun t ht hW => ⟨⟨_, S26, rfl, h, by rw [ht]; exact hP, hD, hN⟩, hS.F ht⟩) hS.2.2 dX6_faultAt_136
                  · have h := h.2 c_27
                    refine lv_iconst (v := 3) hx hb dX6_faultAt_121 (by decide) ?_
                    exact W.iret (v := 3) hx hb hr (fun t ht hW => ⟨⟨_, S26, rfl, h, by rw [ht]; exact hP, hD, hN⟩, hS.F ht⟩) hS.2.2 dX6_faultAt_122
                · have h := h.2 c_24
                  refine lv_iconst (v := 4) hx hb dX6_faultAt_107 (by decide) ?_
                  exact W.iret (v := 4) hx hb hr (fun t ht hW => ⟨⟨_, S, rfl, h, by rw [ht]; exact hP, hD, hN⟩, hS.F ht⟩) hS.2.2 dX6_faultAt_108
              · have h := h.2 c_21
                refine lv_iload_n hx hb dX6_faultAt_92 rfl (lv_at hl 3 rfl) ?_
                refine lv_bipush (v := 10) hx hb dX6_faultAt_93 (by decide) ?_
                refine lv_icmp_ne (tgt := 123) hx hb dX6_faultAt_95 (by decide) (fun c_36 => ?_) (fun c_36 => ?_)
                · have h := h.1 c_36
                  refine lv_iload_n hx hb dX6_faultAt_123 rfl (lv_at hl 3 rfl) ?_
                  refine lv_bipush (v := 9) hx hb dX6_faultAt_124 (by decide) ?_
                  refine lv_icmp_eq (tgt := 135) hx hb dX6_faultAt_126 (by decide) (fun c_37 => ?_) (fun c_37 => ?_)
                  · have h := h.1 c_37
                    refine lv_iconst (v := 0) hx hb dX6_faultAt_135 (by decide) ?_
                    exact W.iret (v := 0) hx hb hr (fun t ht hW => ⟨⟨_, S, rfl, h, by rw [ht]; exact hP, hD, hN⟩, hS.F ht⟩) hS.2.2 dX6_faultAt_136
                  · have h := h.2 c_37
                    refine lv_iload_n hx hb dX6_faultAt_129 rfl (lv_at hl 3 rfl) ?_
                    refine lv_bipush (v := 12) hx hb dX6_faultAt_130 (by decide) ?_
                    refine lv_icmp_ne (tgt := 137) hx hb dX6_faultAt_132 (by decide) (fun c_38 => ?_) (fun c_38 => ?_)
                    · have h := h.1 c_38
                      refine lv_aload_n hx hb dX6_faultAt_137 rfl (lv_at hl 5 rfl) ?_
                      refine lv_iload_n hx hb dX6_faultAt_138 rfl (lv_at hl 6 rfl) ?_
                      refine lv_iconst (v := 1) hx hb dX6_faultAt_139 (by decide) ?_
                      refine lv_iadd hx hb dX6_faultAt_140 ?_
                      have hi_39 := h.1
                      have h := h.2
                      obtain ⟨p_39, hp_39⟩ := cget_24 cI cZ cP cF q S hi_39
                      refine vp_callSi (va_Run.run (va_runV (As := [.int (a2 + 1)]) (rest := []) ⟨hx, hb, hml, hown, hts⟩ (zd_X8_has l D cI cZ cP cF q S i1 (a2 + 1)  _ h) (cwV 1 hts zg_zd_X6_faultAt_zd_X8_has_85 rfl rfl rfl (by decide +kernel) ⟨Nat.le_of_ble_eq_true rfl, Nat.le_of_ble_eq_true rfl⟩) ⟨zCR, va_recv hK hP (ci := 8) (q0 := p_39) rfl hp_39, fun U hU hW => ⟨rfl, by rw [hU]; exact hP, hE.warm hW⟩⟩ rfl rfl hl.1 rfl (lv_room (Nat.le_of_ble_eq_true rfl)) dX6_faultAt_141 ⟨Nat.le_of_ble_eq_true rfl, Nat.le_of_ble_eq_true rfl⟩)) (fun r40 h => ?_)
                      refine lv_if_ne (tgt := 149) hx hb dX6_faultAt_144 (by decide) (fun c_41 => ?_) (fun c_41 => ?_)
                      · have h := h.1 c_41
                        refine lv_aload_n hx hb dX6_faultAt_149 rfl (lv_at hl 4 rfl) ?_
                        refine lv_aload_n hx hb dX6_faultAt_150 rfl (lv_at hl 5 rfl) ?_
                        refine lv_iload_n hx hb dX6_faultAt_151 rfl (lv_at hl 6 rfl) ?_
                        refine lv_iconst (v := 1) hx hb dX6_faultAt_152 (by decide) ?_
                        refine lv_iadd hx hb dX6_faultAt_153 ?_
                        refine lv_iload hx hb dX6_faultAt_154 (lv_at hl 0 rfl) ?_
                        obtain ⟨p_42, hp_42⟩ := cget_10 cI cZ cP cF q S
                        have hi_42 : cin S 10 0 := Or.inl ⟨by decide, rfl⟩
                        have hFc := zm_free hD hS hA
                        refine va_calli (va_runV (As := [.ref (q 24 i1), .int (a2 + 1), .int ((r17 - r7) + (zLY (r2 : Int32).toNatClampNeg))]) (rest := []) ⟨hx, hb, hml, hown, hts⟩ (zd_X6_comes l D cI cZ cP cF q S i1 (a2 + 1) ((r17 - r7) + (zLY (r2 : Int32).toNatClampNeg)) H.size _ h) (cwV 3 hts zg_zd_X6_faultAt_zd_X6_comes_35 rfl rfl rfl (by decide +kernel) ⟨Nat.le_of_ble_eq_true rfl, Nat.le_of_ble_eq_true rfl⟩) ⟨zCW, va_recv hK hP (ci := 6) (q0 := p_42) rfl hp_42, fun U hU hW => ⟨rfl, by rw [hU], by rw [hU]; exact hP, hE.warm hW, hD.weaken (fun _ _ _ _ => trivial)⟩⟩ rfl rfl hl.1 rfl (lv_room (Nat.le_of_ble_eq_true rfl)) dX6_faultAt_156 ⟨Nat.le_of_ble_eq_true rfl, Nat.le_of_ble_eq_true rfl⟩) hS (fun q _ h => hFc q h) hFc (fun r43 S43 t H locs ht hvm h hB hz1 hk1 hS => ?_)
                        obtain ⟨hP, hD1, hN1⟩ := hB
                        rw [ht] at hP
                        have hD := hD1.weaken (fun k q _ hq => hFc q.1 hq)
                        have hN := hN1.trans hN
                        refine lv_if_eq (tgt := 166) hx hb dX6_faultAt_159 (by decide) (fun c_44 => ?_) (fun c_44 => ?_)
                        · have h := h.1 c_44
                          refine lv_iconst (v := 3) hx hb dX6_faultAt_166 (by decide) ?_
                          exact W.iret (v := 3) hx hb hr (fun t ht hW => ⟨⟨_, S43, rfl, h, by rw [ht]; exact hP, hD, hN⟩, hS.F ht⟩) hS.2.2 dX6_faultAt_167
                        · have h := h.2 c_44
                          refine lv_iconst (v := 0) hx hb dX6_faultAt_162 (by decide) ?_
                          refine lv_goto (tgt := 167) hx hb dX6_faultAt_163 (by decide) ?_
                          exact W.iret (v := 0) hx hb hr (fun t ht hW => ⟨⟨_, S43, rfl, h, by rw [ht]; exact hP, hD, hN⟩, hS.F ht⟩) hS.2.2 dX6_faultAt_167
                      · have h := h.2 c_41
                        refine lv_iconst (v := 5) hx hb dX6_faultAt_147 (by decide) ?_
                        exact W.iret (v := 5) hx hb hr (fun t ht hW => ⟨⟨_, S, rfl, h, by rw [ht]; exact hP, hD, hN⟩, hS.F ht⟩) hS.2.2 dX6_faultAt_148
                    · have h := h.2 c_38
                      refine lv_iconst (v := 0) hx hb dX6_faultAt_135 (by decide) ?_
                      exact W.iret (v := 0) hx hb hr (fun t ht hW => ⟨⟨_, S, rfl, h, by rw [ht]; exact hP, hD, hN⟩, hS.F ht⟩) hS.2.2 dX6_faultAt_136
                · have h := h.2 c_36
                  refine lv_aload_n hx hb dX6_faultAt_98 rfl (lv_at hl 5 rfl) ?_
                  refine lv_iload hx hb dX6_faultAt_99 (lv_at hl 2 rfl) ?_
                  have hi_45 := h.1
                  have h := h.2
                  obtain ⟨p_45, hp_45⟩ := cget_24 cI cZ cP cF q S hi_45
                  refine vp_callSi (va_Run.run (va_runV (As := [.int r4]) (rest := []) ⟨hx, hb, hml, hown, hts⟩ (zd_X8_has l D cI cZ cP cF q S i1 r4  _ h) (cwV 1 hts zg_zd_X6_faultAt_zd_X8_has_85 rfl rfl rfl (by decide +kernel) ⟨Nat.le_of_ble_eq_true rfl, Nat.le_of_ble_eq_true rfl⟩) ⟨zCR, va_recv hK hP (ci := 8) (q0 := p_45) rfl hp_45, fun U hU hW => ⟨rfl, by rw [hU]; exact hP, hE.warm hW⟩⟩ rfl rfl hl.1 rfl (lv_room (Nat.le_of_ble_eq_true rfl)) dX6_faultAt_101 ⟨Nat.le_of_ble_eq_true rfl, Nat.le_of_ble_eq_true rfl⟩)) (fun r46 h => ?_)
                  refine lv_if_ne (tgt := 109) hx hb dX6_faultAt_104 (by decide) (fun c_47 => ?_) (fun c_47 => ?_)
                  · have h := h.1 c_47
                    refine lv_aload_n hx hb dX6_faultAt_109 rfl (lv_at hl 4 rfl) ?_
                    refine lv_aload_n hx hb dX6_faultAt_110 rfl (lv_at hl 5 rfl) ?_
                    refine lv_iload hx hb dX6_faultAt_111 (lv_at hl 2 rfl) ?_
                    refine lv_iload hx hb dX6_faultAt_113 (lv_at hl 0 rfl) ?_
                    obtain ⟨p_48, hp_48⟩ := cget_10 cI cZ cP cF q S
                    have hi_48 : cin S 10 0 := Or.inl ⟨by decide, rfl⟩
                    have hFc := zm_free hD hS hA
                    refine va_calli (va_runV (As := [.ref (q 24 i1), .int r4, .int ((r17 - r7) + (zLY (r2 : Int32).toNatClampNeg))]) (rest := []) ⟨hx, hb, hml, hown, hts⟩ (zd_X6_comes l D cI cZ cP cF q S i1 r4 ((r17 - r7) + (zLY (r2 : Int32).toNatClampNeg)) H.size _ h) (cwV 3 hts zg_zd_X6_faultAt_zd_X6_comes_35 rfl rfl rfl (by decide +kernel) ⟨Nat.le_of_ble_eq_true rfl, Nat.le_of_ble_eq_true rfl⟩) ⟨zCW, va_recv hK hP (ci := 6) (q0 := p_48) rfl hp_48, fun U hU hW => ⟨rfl, by rw [hU], by rw [hU]; exact hP, hE.warm hW, hD.weaken (fun _ _ _ _ => trivial)⟩⟩ rfl rfl hl.1 rfl (lv_room (Nat.le_of_ble_eq_true rfl)) dX6_faultAt_115 ⟨Nat.le_of_ble_eq_true rfl, Nat.le_of_ble_eq_true rfl⟩) hS (fun q _ h => hFc q h) hFc (fun r49 S49 t H locs ht hvm h hB hz1 hk1 hS => ?_)
                    obtain ⟨hP, hD1, hN1⟩ := hB
                    rw [ht] at hP
                    have hD := hD1.weaken (fun k q _ hq => hFc q.1 hq)
                    have hN := hN1.trans hN
                    refine lv_if_ne (tgt := 123) hx hb dX6_faultAt_118 (by decide) (fun c_50 => ?_) (fun c_50 => ?_)
                    · have h := h.1 c_50
                      refine lv_iload_n hx hb dX6_faultAt_123 rfl (lv_at hl 3 rfl) ?_
                      refine lv_bipush (v := 9) hx hb dX6_faultAt_124 (by decide) ?_
                      refine lv_icmp_eq (tgt := 135) hx hb dX6_faultAt_126 (by decide) (fun c_51 => ?_) (fun c_51 => ?_)
                      · have h := h.1 c_51
                        refine lv_iconst (v := 0) hx hb dX6_faultAt_135 (by decide) ?_
                        exact W.iret (v := 0) hx hb hr (fun t ht hW => ⟨⟨_, S49, rfl, h, by rw [ht]; exact hP, hD, hN⟩, hS.F ht⟩) hS.2.2 dX6_faultAt_136
                      · have h := h.2 c_51
                        refine lv_iload_n hx hb dX6_faultAt_129 rfl (lv_at hl 3 rfl) ?_
                        refine lv_bipush (v := 12) hx hb dX6_faultAt_130 (by decide) ?_
                        refine lv_icmp_ne (tgt := 137) hx hb dX6_faultAt_132 (by decide) (fun c_52 => ?_) (fun c_52 => ?_)
                        · have h := h.1 c_52
                          refine lv_aload_n hx hb dX6_faultAt_137 rfl (lv_at hl 5 rfl) ?_
                          refine lv_iload_n hx hb dX6_faultAt_138 rfl (lv_at hl 6 rfl) ?_
                          refine lv_iconst (v := 1) hx hb dX6_faultAt_139 (by decide) ?_
                          refine lv_iadd hx hb dX6_faultAt_140 ?_
                          have hi_53 := h.1
                          have h := h.2
                          obtain ⟨p_53, hp_53⟩ := cget_24 cI cZ cP cF q S49 hi_53
                          refine vp_callSi (va_Run.run (va_runV (As := [.int (a2 + 1)]) (rest := []) ⟨hx, hb, hml, hown, hts⟩ (zd_X8_has l D cI cZ cP cF q S49 i1 (a2 + 1)  _ h) (cwV 1 hts zg_zd_X6_faultAt_zd_X8_has_85 rfl rfl rfl (by decide +kernel) ⟨Nat.le_of_ble_eq_true rfl, Nat.le_of_ble_eq_true rfl⟩) ⟨zCR, va_recv hK hP (ci := 8) (q0 := p_53) rfl hp_53, fun U hU hW => ⟨rfl, by rw [hU]; exact hP, hE.warm hW⟩⟩ rfl rfl hl.1 rfl (lv_room (Nat.le_of_ble_eq_true rfl)) dX6_faultAt_141 ⟨Nat.le_of_ble_eq_true rfl, Nat.le_of_ble_eq_true rfl⟩)) (fun r54 h => ?_)
                          refine lv_if_ne (tgt := 149) hx hb dX6_faultAt_144 (by decide) (fun c_55 => ?_) (fun c_55 => ?_)
                          · have h := h.1 c_55
                            refine lv_aload_n hx hb dX6_faultAt_149 rfl (lv_at hl 4 rfl) ?_
                            refine lv_aload_n hx hb dX6_faultAt_150 rfl (lv_at hl 5 rfl) ?_
                            refine lv_iload_n hx hb dX6_faultAt_151 rfl (lv_at hl 6 rfl) ?_
                            refine lv_iconst (v := 1) hx hb dX6_faultAt_152 (by decide) ?_
                            refine lv_iadd hx hb dX6_faultAt_153 ?_
                            refine lv_iload hx hb dX6_faultAt_154 (lv_at hl 0 rfl) ?_
                            obtain ⟨p_56, hp_56⟩ := cget_10 cI cZ cP cF q S49
                            have hi_56 : cin S49 10 0 := Or.inl ⟨by decide, rfl⟩
                            have hFc := zm_free hD hS hA
                            refine va_calli (va_runV (As := [.ref (q 24 i1), .int (a2 + 1), .int ((r17 - r7) + (zLY (r2 : Int32).toNatClampNeg))]) (rest := []) ⟨hx, hb, hml, hown, hts⟩ (zd_X6_comes l D cI cZ cP cF q S49 i1 (a2 + 1) ((r17 - r7) + (zLY (r2 : Int32).toNatClampNeg)) H.size _ h) (cwV 3 hts zg_zd_X6_faultAt_zd_X6_comes_35 rfl rfl rfl (by decide +kernel) ⟨Nat.le_of_ble_eq_true rfl, Nat.le_of_ble_eq_true rfl⟩) ⟨zCW, va_recv hK hP (ci := 6) (q0 := p_56) rfl hp_56, fun U hU hW => ⟨rfl, by rw [hU], by rw [hU]; exact hP, hE.warm hW, hD.weaken (fun _ _ _ _ => trivial)⟩⟩ rfl rfl hl.1 rfl (lv_room (Nat.le_of_ble_eq_true rfl)) dX6_faultAt_156 ⟨Nat.le_of_ble_eq_true rfl, Nat.le_of_ble_eq_true rfl⟩) hS (fun q _ h => hFc q h) hFc (fun r57 S57 t H locs ht hvm h hB hz1 hk1 hS => ?_)
                            obtain ⟨hP, hD1, hN1⟩ := hB
                            rw [ht] at hP
                            have hD := hD1.weaken (fun k q _ hq => hFc q.1 hq)
                            have hN := hN1.trans hN
                            refine lv_if_eq (tgt := 166) hx hb dX6_faultAt_159 (by decide) (fun c_58 => ?_) (fun c_58 => ?_)
                            · have h := h.1 c_58
                              refine lv_iconst (v := 3) hx hb dX6_faultAt_166 (by decide) ?_
                              exact W.iret (v := 3) hx hb hr (fun t ht hW => ⟨⟨_, S57, rfl, h, by rw [ht]; exact hP, hD, hN⟩, hS.F ht⟩) hS.2.2 dX6_faultAt_167
                            · have h := h.2 c_58
                              refine lv_iconst (v := 0) hx hb dX6_faultAt_162 (by decide) ?_
                              refine lv_goto (tgt := 167) hx hb dX6_faultAt_163 (by decide) ?_
                              exact W.iret (v := 0) hx hb hr (fun t ht hW => ⟨⟨_, S57, rfl, h, by rw [ht]; exact hP, hD, hN⟩, hS.F ht⟩) hS.2.2 dX6_faultAt_167
                          · have h := h.2 c_55
                            refine lv_iconst (v := 5) hx hb dX6_faultAt_147 (by decide) ?_
                            exact W.iret (v := 5) hx hb hr (fun t ht hW => ⟨⟨_, S49, rfl, h, by rw [ht]; exact hP, hD, hN⟩, hS.F ht⟩) hS.2.2 dX6_faultAt_148
                        · have h := h.2 c_52
                          refine lv_iconst (v := 0) hx hb dX6_faultAt_135 (by decide) ?_
                          exact W.iret (v := 0) hx hb hr (fun t ht hW => ⟨⟨_, S49, rfl, h, by rw [ht]; exact hP, hD, hN⟩, hS.F ht⟩) hS.2.2 dX6_faultAt_136
                    · have h := h.2 c_50
                      refine lv_iconst (v := 3) hx hb dX6_faultAt_121 (by decide) ?_
                      exact W.iret (v := 3) hx hb hr (fun t ht hW => ⟨⟨_, S49, rfl, h, by rw [ht]; exact hP, hD, hN⟩, hS.F ht⟩) hS.2.2 dX6_faultAt_122
                  · have h := h.2 c_47
                    refine lv_iconst (v := 4) hx hb dX6_faultAt_107 (by decide) ?_
                    exact W.iret (v := 4) hx hb hr (fun t ht hW => ⟨⟨_, S, rfl, h, by rw [ht]; exact hP, hD, hN⟩, hS.F ht⟩) hS.2.2 dX6_faultAt_108
            · have h := h.2 c_20
              refine lv_iconst (v := 2) hx hb dX6_faultAt_84 (by decide) ?_
              exact W.iret (v := 2) hx hb hr (fun t ht hW => ⟨⟨_, S, rfl, h, by rw [ht]; exact hP, hD, hN⟩, hS.F ht⟩) hS.2.2 dX6_faultAt_85
          · have h := h.2 c_15
            refine lv_iconst (v := 1) hx hb dX6_faultAt_59 (by decide) ?_
            exact W.iret (v := 1) hx hb hr (fun t ht hW => ⟨⟨_, S, rfl, h, by rw [ht]; exact hP, hD, hN⟩, hS.F ht⟩) hS.2.2 dX6_faultAt_60
        · have h := h.2 c_12
          refine lv_bipush (v := 6) hx hb dX6_faultAt_46 (by decide) ?_
          exact W.iret (v := 6) hx hb hr (fun t ht hW => ⟨⟨_, S, rfl, h, by rw [ht]; exact hP, hD, hN⟩, hS.F ht⟩) hS.2.2 dX6_faultAt_48
  exact key _ _ hP va_S.rf

def wl_X9_findTargets_23 (K_90 : CST → Prop) (Post : CST → Prop) : Nat → CST → Nat → Int32 → Prop
  | 0, _, _, _ => False
  | n_23 + 1, S_23, y23_1, x23_2 => cin S_23 24 y23_1 ∧ ((((cv S_23 247 y23_1 0) ≤ x23_2) → ((K_90 S_23 ))) ∧ ((¬ ((cv S_23 247 y23_1 0) ≤ x23_2)) → (cin S_23 24 y23_1 ∧ (wp_X8_opAt S_23 y23_1 x23_2 (fun r4 => cin S_23 24 y23_1 ∧ (wp_X8_xAt S_23 y23_1 x23_2 (fun r6 => (((r4 : Int32) = 9) → (cin S_23 24 y23_1 ∧ (wp_X8_isDead S_23 y23_1 x23_2 (fun r9 => ((¬ ((r9 : Int32) = 0)) → (wl_X9_findTargets_23 K_90 Post n_23 S_23 y23_1 (x23_2 + 1))) ∧ (((r9 : Int32) = 0) → ((((r6 : Int32) < 0) → (wl_X9_findTargets_23 K_90 Post n_23 S_23 y23_1 (x23_2 + 1))) ∧ ((¬ ((r6 : Int32) < 0)) → (((60 ≤ r6) → (wl_X9_findTargets_23 K_90 Post n_23 S_23 y23_1 (x23_2 + 1))) ∧ ((¬ (60 ≤ r6)) → (vp_in r6 60 ∧ (∀ S15 : CST, S15 = cs S_23 180 0 (upd (cv S_23 180 0) (r6 : Int32).toNatClampNeg (vp_nar .boolean 1)) → (wl_X9_findTargets_23 K_90 Post n_23 S15 y23_1 (x23_2 + 1))))))))))))) ∧ ((¬ ((r4 : Int32) = 9)) → (((¬ ((r4 : Int32) = 10)) → (wl_X9_findTargets_23 K_90 Post n_23 S_23 y23_1 (x23_2 + 1))) ∧ (((r4 : Int32) = 10) → (cin S_23 24 y23_1 ∧ (wp_X8_isDead S_23 y23_1 x23_2 (fun r18 => ((¬ ((r18 : Int32) = 0)) → (wl_X9_findTargets_23 K_90 Post n_23 S_23 y23_1 (x23_2 + 1))) ∧ (((r18 : Int32) = 0) → ((((r6 : Int32) < 0) → (wl_X9_findTargets_23 K_90 Post n_23 S_23 y23_1 (x23_2 + 1))) ∧ ((¬ ((r6 : Int32) < 0)) → (((60 ≤ r6) → (wl_X9_findTargets_23 K_90 Post n_23 S_23 y23_1 (x23_2 + 1))) ∧ ((¬ (60 ≤ r6)) → (vp_in r6 60 ∧ (∀ S24 : CST, S24 = cs S_23 180 0 (upd (cv S_23 180 0) (r6 : Int32).toNatClampNeg (vp_nar .boolean 1)) → (wl_X9_findTargets_23 K_90 Post n_23 S24 y23_1 (x23_2 + 1))))))))))))))))))))))
def wl_X9_findTargets_2 (K_21 : CST → Nat → Prop) (Post : CST → Prop) : Nat → CST → Nat → Int32 → Prop
  | 0, _, _, _ => False
  | n_2 + 1, S_2, y2_1, x2_2 => ((60 ≤ x2_2) → ((K_21 S_2 y2_1))) ∧ ((¬ (60 ≤ x2_2)) → (vp_in x2_2 60 ∧ (∀ S28 : CST, S28 = cs S_2 180 0 (upd (cv S_2 180 0) (x2_2 : Int32).toNatClampNeg (vp_nar .boolean 0)) → (wl_X9_findTargets_2 K_21 Post n_2 S28 y2_1 (x2_2 + 1)))))
def wp_X9_findTargets (S : CST) (i1 : Nat) (Post : CST → Prop) : Prop :=
  ∃ n_2, wl_X9_findTargets_2 (fun S_21 y21_1 => ∃ n_23, wl_X9_findTargets_23 (fun S_90 => Post S_90) Post n_23 S_21 y21_1 0) Post n_2 S i1 0
def zw_zd_X9_findTargets_w0 : List Cond := [.fieldLink RX9 55 "TemplateForge$Program" "length" "I", .code yX8_opAt cX8_opAt 2 (some .int), .code yX8_has cX8_has 2 (some .boolean), .fieldLink RX8 41 "TemplateForge$Program" "length" "I", .methodLink RX8 44 yX8_has, .instanceMethod yX8_has, .selects RX8 yX8_has yX8_has, .initialized RX8, .fieldLink RX8 18 "TemplateForge$Program" "ops" "[I", .methodLink RX9 86 yX8_opAt, .instanceMethod yX8_opAt, .selects RX8 yX8_opAt yX8_opAt, .code yX8_xAt cX8_xAt 2 (some .int), .fieldLink RX8 22 "TemplateForge$Program" "xs" "[I", .methodLink RX9 99 yX8_xAt, .instanceMethod yX8_xAt]
def zw_zd_X9_findTargets_w1 : List Cond := [.selects RX8 yX8_xAt yX8_xAt, .code yX8_isDead cX8_isDead 2 (some .boolean), .fieldLink RX8 25 "TemplateForge$Program" "depths" "[I", .methodLink RX9 59 yX8_isDead, .instanceMethod yX8_isDead, .selects RX8 yX8_isDead yX8_isDead, .fieldLink RX9 19 "TemplateForge$Smith" "target" "[Z"]
def zw_zd_X9_findTargets : List Cond := .code yX9_findTargets cX9_findTargets 5 none :: ((zw_zd_X9_findTargets_w0 ++ (zw_zd_X9_findTargets_w1)) ++ wsX80 ++ wsX90)
set_option maxRecDepth 100000 in
theorem zg_zd_X9_findTargets_zd_X8_opAt_86_a : GoodIn zw_zd_X9_findTargets [.methodLink RX9 86 yX8_opAt, .instanceMethod yX8_opAt, .selects RX8 yX8_opAt yX8_opAt, .initialized RX8] := goodIn_r _ [10, 11, 12, 8] rfl (by decide +kernel)
set_option maxRecDepth 100000 in
theorem zg_zd_X9_findTargets_zd_X8_opAt_86_c : GoodIn zw_zd_X9_findTargets [.code yX8_opAt cX8_opAt 2 (some .int)] := goodIn_r _ [2] rfl (by decide +kernel)
set_option maxRecDepth 100000 in
theorem zg_zd_X9_findTargets_zd_X8_opAt_86_0 : GoodIn zw_zd_X9_findTargets zw_zd_X8_opAt_w0 := goodIn_r _ [3, 4, 5, 6, 7, 8, 9] rfl (by decide +kernel)
theorem zg_zd_X9_findTargets_zd_X8_opAt_86 : GoodIn zw_zd_X9_findTargets (wsV RX9 86 RX8 yX8_opAt zw_zd_X8_opAt) := goodIn_app zg_zd_X9_findTargets_zd_X8_opAt_86_a (goodIn_ca (a := (zw_zd_X8_opAt_w0)) (show GoodIn zw_zd_X9_findTargets (.code yX8_opAt cX8_opAt 2 (some .int) :: (zw_zd_X8_opAt_w0)) from goodIn_app zg_zd_X9_findTargets_zd_X8_opAt_86_c (zg_zd_X9_findTargets_zd_X8_opAt_86_0)) (fun w h => ⟨(fun _ h => List.mem_cons_of_mem _ (List.mem_append_left _ (List.mem_append_right _ h))) w h, good_of_word (List.all_eq_true.mp zgw_X8 w h)⟩))
set_option maxRecDepth 100000 in
theorem zg_zd_X9_findTargets_zd_X8_xAt_99_a : GoodIn zw_zd_X9_findTargets [.methodLink RX9 99 yX8_xAt, .instanceMethod yX8_xAt, .selects RX8 yX8_xAt yX8_xAt, .initialized RX8] := goodIn_r _ [15, 16, 17, 8] rfl (by decide +kernel)
set_option maxRecDepth 100000 in
theorem zg_zd_X9_findTargets_zd_X8_xAt_99_c : GoodIn zw_zd_X9_findTargets [.code yX8_xAt cX8_xAt 2 (some .int)] := goodIn_r _ [13] rfl (by decide +kernel)
set_option maxRecDepth 100000 in
theorem zg_zd_X9_findTargets_zd_X8_xAt_99_0 : GoodIn zw_zd_X9_findTargets zw_zd_X8_xAt_w0 := goodIn_r _ [3, 4, 5, 6, 7, 8, 14] rfl (by decide +kernel)
theorem zg_zd_X9_findTargets_zd_X8_xAt_99 : GoodIn zw_zd_X9_findTargets (wsV RX9 99 RX8 yX8_xAt zw_zd_X8_xAt) := goodIn_app zg_zd_X9_findTargets_zd_X8_xAt_99_a (goodIn_ca (a := (zw_zd_X8_xAt_w0)) (show GoodIn zw_zd_X9_findTargets (.code yX8_xAt cX8_xAt 2 (some .int) :: (zw_zd_X8_xAt_w0)) from goodIn_app zg_zd_X9_findTargets_zd_X8_xAt_99_c (zg_zd_X9_findTargets_zd_X8_xAt_99_0)) (fun w h => ⟨(fun _ h => List.mem_cons_of_mem _ (List.mem_append_left _ (List.mem_append_right _ h))) w h, good_of_word (List.all_eq_true.mp zgw_X8 w h)⟩))
set_option maxRecDepth 100000 in
theorem zg_zd_X9_findTargets_zd_X8_isDead_59_a : GoodIn zw_zd_X9_findTargets [.methodLink RX9 59 yX8_isDead, .instanceMethod yX8_isDead, .selects RX8 yX8_isDead yX8_isDead, .initialized RX8] := goodIn_r _ [20, 21, 22, 8] rfl (by decide +kernel)
set_option maxRecDepth 100000 in
theorem zg_zd_X9_findTargets_zd_X8_isDead_59_c : GoodIn zw_zd_X9_findTargets [.code yX8_isDead cX8_isDead 2 (some .boolean)] := goodIn_r _ [18] rfl (by decide +kernel)
set_option maxRecDepth 100000 in
theorem zg_zd_X9_findTargets_zd_X8_isDead_59_0 : GoodIn zw_zd_X9_findTargets zw_zd_X8_isDead_w0 := goodIn_r _ [3, 4, 5, 6, 7, 8, 19] rfl (by decide +kernel)
theorem zg_zd_X9_findTargets_zd_X8_isDead_59 : GoodIn zw_zd_X9_findTargets (wsV RX9 59 RX8 yX8_isDead zw_zd_X8_isDead) := goodIn_app zg_zd_X9_findTargets_zd_X8_isDead_59_a (goodIn_ca (a := (zw_zd_X8_isDead_w0)) (show GoodIn zw_zd_X9_findTargets (.code yX8_isDead cX8_isDead 2 (some .boolean) :: (zw_zd_X8_isDead_w0)) from goodIn_app zg_zd_X9_findTargets_zd_X8_isDead_59_c (zg_zd_X9_findTargets_zd_X8_isDead_59_0)) (fun w h => ⟨(fun _ h => List.mem_cons_of_mem _ (List.mem_append_left _ (List.mem_append_right _ h))) w h, good_of_word (List.all_eq_true.mp zgw_X8 w h)⟩))
set_option maxHeartbeats 16000000 in
set_option maxRecDepth 100000 in
theorem zd_X9_findTargets (l : Launch) (D : va_G) (cI cZ cP cF : Nat) (q : Nat → Nat → Nat) (S : CST) (i1 : Nat) (sz : Nat) (Post : CST → Prop) (h : wp_X9_findTargets S i1 Post) : Met l yX9_findTargets zw_zd_X9_findTargets ({ frames := 2, cells := 0, slots := 0, locals := 42 }) (va_Pc [.ref (q 15 0), .ref (q 24 i1)] (fun U => U.heap.size = sz ∧ va_P D vwCl (cW cI cZ cP cF q S) U.heap ∧ zF D cI cZ cP cF U ∧ va_D (fun _ => True) (cW cI cZ cP cF q S))) (va_Qv (fun S' => Post S') (fun (S' : CST) t => va_P D vwCl (cW cI cZ cP cF q S') t.heap ∧ va_D (va_A (cW cI cZ cP cF q S) sz) (cW cI cZ cP cF q S') ∧ S'.2 = S.2) (va_A (cW cI cZ cP cF q S) sz)) 0 0 (va_A (cW cI cZ cP cF q S) sz) := by
  unfold wp_X9_findTargets at h
  refine Met.ofW (cc := cX9_findTargets) (maxL := 5) (ret := none) (by decide) rfl ?_
  intro p e s m args below meth c s₁ B hml hv
  obtain ⟨rfl, hsz, hP, hE, hD0⟩ := hv
  have hx := B.exec
  have hb := B.bytes
  have hr := B.returns
  have hts := atoms_spec (ws := zw_zd_X9_findTargets) B.pre
  have hown : s.vm.findClass RX9 = some m.cls := findClass_of_methodNamed B.named
  have hlocks := B.notSynchronized
  have hK := hE.k
  subst hsz
  have hD := hD0.self (sz := s.heap.size)
  generalize hAe : va_A (cW cI cZ cP cF q S) s.heap.size = A at hD ⊢
  have hA : ∀ q : Nat, s.heap.size ≤ q → A q := fun q h => by rw [← hAe]; exact Or.inr h
  have hN : S.2 = S.2 := rfl
  have hl := lv_entry ([.ref (q 15 0), .ref (q 24 i1)]) (n := 5) (Nat.le_of_ble_eq_true rfl)
  rw [lg_entry_eq]
  generalize (lg_sl ([.ref (q 15 0), .ref (q 24 i1)]) ++ List.replicate (5 - (lg_sl ([.ref (q 15 0), .ref (q 24 i1)])).length) Slot.unset).toArray = ls at hl ⊢
  have hl : lv_has ls 5 [(0, .ref (q 15 0)), (1, .ref (q 24 i1))] := hl
  have key : ∀ (H : Heap) (locs : List Loc), va_P D vwCl (cW cI cZ cP cF q S) H → va_S A s.heap H locs → W p l e (headSpec zw_zd_X9_findTargets ({ frames := 2, cells := 0, slots := 0, locals := 42 })).room s m ([.ref (q 15 0), .ref (q 24 i1)] : List Value).toArray below meth c H locs 0 0 (MQ below (va_Qv (fun S' => Post S') (fun (S' : CST) t => va_P D vwCl (cW cI cZ cP cF q S') t.heap ∧ va_D A (cW cI cZ cP cF q S') ∧ S'.2 = S.2) A) ([.ref (q 15 0), .ref (q 24 i1)] : List Value).toArray s 0 0 A) (F0 m 0 ls []) := by
    intro H locs hP hS
    refine lv_iconst (v := 0) hx hb dX9_findTargets_0 (by decide) ?_
    refine lv_istore_n (lv' := [(2, .int 0), (0, .ref (q 15 0)), (1, .ref (q 24 i1))]) hx hb dX9_findTargets_1 rfl hl (by decide) rfl (fun ls hl => ?_)
    have EX_2_21 : ∀ (S_21 : CST) (y21_1 : Nat) (H : Heap) (locs : List Loc) (ls : Array Slot), (∃ n_23, wl_X9_findTargets_23 (fun S_90 => Post S_90) Post n_23 S_21 y21_1 0) → va_P D vwCl (cW cI cZ cP cF q S_21) H → va_D A (cW cI cZ cP cF q S_21) → va_S A s.heap H locs → S_21.2 = S.2 → lv_has ls 5 [(0, .ref (q 15 0)), (1, .ref (q 24 y21_1))] → W p l e (headSpec zw_zd_X9_findTargets ({ frames := 2, cells := 0, slots := 0, locals := 42 })).room s m ([.ref (q 15 0), .ref (q 24 i1)] : List Value).toArray below meth c H locs 0 0 (MQ below (va_Qv (fun S' => Post S') (fun (S' : CST) t => va_P D vwCl (cW cI cZ cP cF q S') t.heap ∧ va_D A (cW cI cZ cP cF q S') ∧ S'.2 = S.2) A) ([.ref (q 15 0), .ref (q 24 i1)] : List Value).toArray s 0 0 A) (F0 m 21 ls []) := by
      intro S_21 y21_1 H locs ls h hP hD hS hN hl
      refine lv_iconst (v := 0) hx hb dX9_findTargets_21 (by decide) ?_
      refine lv_istore_n (lv' := [(2, .int 0), (0, .ref (q 15 0)), (1, .ref (q 24 y21_1))]) hx hb dX9_findTargets_22 rfl hl (by decide) rfl (fun ls hl => ?_)
      have EX_23_90 : ∀ (S_90 : CST) (H : Heap) (locs : List Loc) (ls : Array Slot), (Post S_90) → va_P D vwCl (cW cI cZ cP cF q S_90) H → va_D A (cW cI cZ cP cF q S_90) → va_S A s.heap H locs → S_90.2 = S.2 → lv_has ls 5 [] → W p l e (headSpec zw_zd_X9_findTargets ({ frames := 2, cells := 0, slots := 0, locals := 42 })).room s m ([.ref (q 15 0), .ref (q 24 i1)] : List Value).toArray below meth c H locs 0 0 (MQ below (va_Qv (fun S' => Post S') (fun (S' : CST) t => va_P D vwCl (cW cI cZ cP cF q S') t.heap ∧ va_D A (cW cI cZ cP cF q S') ∧ S'.2 = S.2) A) ([.ref (q 15 0), .ref (q 24 i1)] : List Value).toArray s 0 0 A) (F0 m 90 ls []) := by
        intro S_90  H locs ls h hP hD hS hN hl
        exact W.vret hx hb hr (fun t ht hW => ⟨⟨S_90, rfl, h, by rw [ht]; exact hP, hD, hN⟩, hS.F ht⟩) hS.2.2 dX9_findTargets_90
      have LP_23 : ∀ (n_23 : Nat), ∀ (S_23 : CST) (y23_1 : Nat) (x23_2 : Int32) (H : Heap) (locs : List Loc) (ls : Array Slot), wl_X9_findTargets_23 (fun S_90 => Post S_90) Post n_23 S_23 y23_1 x23_2 → va_P D vwCl (cW cI cZ cP cF q S_23) H → va_D A (cW cI cZ cP cF q S_23) → va_S A s.heap H locs → S_23.2 = S.2 → lv_has ls 5 [(0, .ref (q 15 0)), (1, .ref (q 24 y23_1)), (2, .int x23_2)] → W p l e (headSpec zw_zd_X9_findTargets ({ frames := 2, cells := 0, slots := 0, locals := 42 })).room s m ([.ref (q 15 0), .ref (q 24 i1)] : List Value).toArray below meth c H locs 0 0 (MQ below (va_Qv (fun S' => Post S') (fun (S' : CST) t => va_P D vwCl (cW cI cZ cP cF q S') t.heap ∧ va_D A (cW cI cZ cP cF q S') ∧ S'.2 = S.2) A) ([.ref (q 15 0), .ref (q 24 i1)] : List Value).toArray s 0 0 A) (F0 m 23 ls []) := by
        intro n_23
        induction n_23 with
        | zero =>
          intro S_23 y23_1 x23_2 H locs ls h hP hD hS hN hl
          exact False.elim h
        | succ n_23 ih_23 =>
          intro S_23 y23_1 x23_2 H locs ls h hP hD hS hN hl
          unfold wl_X9_findTargets_23 at h
          refine lv_iload_n hx hb dX9_findTargets_23 rfl (lv_at hl 2 rfl) ?_
          refine lv_aload_n hx hb dX9_findTargets_24 rfl (lv_at hl 1 rfl) ?_
          have hi_1 := h.1
          have h := h.2
          obtain ⟨p_1, hp_1⟩ := cget_24 cI cZ cP cF q S_23 hi_1
          refine va_get (D := D) (ci := 8) (v := .int (cv S_23 247 y23_1 0)) (C := RX8) (T := TX8) (N := 10) hx hb hts (fun _ h => List.mem_cons_of_mem _ (List.mem_append_left _ (List.mem_append_right _ h))) hown hK hP p_1 hp_1 rfl 7 (by decide) (hts (.fieldLink RX9 55 "TemplateForge$Program" "length" "I") (List.mem_of_getElem? (i := 1) rfl)) (fun _ h9 => h9) rfl dX9_findTargets_25 ?_
          refine lv_icmp_ge (tgt := 90) hx hb dX9_findTargets_28 (by decide) (fun c_2 => ?_) (fun c_2 => ?_)
          · have h := h.1 c_2
            exact EX_23_90  S_23  H locs _ h hP hD hS hN (lv_sub hl [] rfl)
          · have h := h.2 c_2
            refine lv_aload_n hx hb dX9_findTargets_31 rfl (lv_at hl 1 rfl) ?_
            refine lv_iload_n hx hb dX9_findTargets_32 rfl (lv_at hl 2 rfl) ?_
            have hi_3 := h.1
            have h := h.2
            obtain ⟨p_3, hp_3⟩ := cget_24 cI cZ cP cF q S_23 hi_3
            refine vp_callSi (va_Run.run (va_runV (As := [.int x23_2]) (rest := []) ⟨hx, hb, hml, hown, hts⟩ (zd_X8_opAt l D cI cZ cP cF q S_23 y23_1 x23_2  _ h) (cwV 1 hts zg_zd_X9_findTargets_zd_X8_opAt_86 rfl rfl rfl (by decide +kernel) ⟨Nat.le_of_ble_eq_true rfl, Nat.le_of_ble_eq_true rfl⟩) ⟨zCR, va_recv hK hP (ci := 8) (q0 := p_3) rfl hp_3, fun U hU hW => ⟨rfl, by rw [hU]; exact hP, hE.warm hW⟩⟩ rfl rfl hl.1 rfl (lv_room (Nat.le_of_ble_eq_true rfl)) dX9_findTargets_33 ⟨Nat.le_of_ble_eq_true rfl, Nat.le_of_ble_eq_true rfl⟩)) (fun r4 h => ?_)
            refine lv_istore_n (lv' := [(3, .int r4), (0, .ref (q 15 0)), (1, .ref (q 24 y23_1)), (2, .int x23_2)]) hx hb dX9_findTargets_36 rfl hl (by decide) rfl (fun ls hl => ?_)
            refine lv_aload_n hx hb dX9_findTargets_37 rfl (lv_at hl 2 rfl) ?_
            refine lv_iload_n hx hb dX9_findTargets_38 rfl (lv_at hl 3 rfl) ?_
            have hi_5 := h.1
            have h := h.2
            obtain ⟨p_5, hp_5⟩ := cget_24 cI cZ cP cF q S_23 hi_5
            refine vp_callSi (va_Run.run (va_runV (As := [.int x23_2]) (rest := []) ⟨hx, hb, hml, hown, hts⟩ (zd_X8_xAt l D cI cZ cP cF q S_23 y23_1 x23_2  _ h) (cwV 1 hts zg_zd_X9_findTargets_zd_X8_xAt_99 rfl rfl rfl (by decide +kernel) ⟨Nat.le_of_ble_eq_true rfl, Nat.le_of_ble_eq_true rfl⟩) ⟨zCR, va_recv hK hP (ci := 8) (q0 := p_5) rfl hp_5, fun U hU hW => ⟨rfl, by rw [hU]; exact hP, hE.warm hW⟩⟩ rfl rfl hl.1 rfl (lv_room (Nat.le_of_ble_eq_true rfl)) dX9_findTargets_39 ⟨Nat.le_of_ble_eq_true rfl, Nat.le_of_ble_eq_true rfl⟩)) (fun r6 h => ?_)
            refine lv_istore (lv' := [(4, .int r6), (3, .int r4), (0, .ref (q 15 0)), (1, .ref (q 24 y23_1)), (2, .int x23_2)]) hx hb dX9_findTargets_42 hl (by decide) rfl (fun ls hl => ?_)
            refine lv_iload_n hx hb dX9_findTargets_44 rfl (lv_at hl 1 rfl) ?_
            refine lv_bipush (v := 9) hx hb dX9_findTargets_45 (by decide) ?_
            refine lv_icmp_eq (tgt := 56) hx hb dX9_findTargets_47 (by decide) (fun c_7 => ?_) (fun c_7 => ?_)
            · have h := h.1 c_7
              refine lv_aload_n hx hb dX9_findTargets_56 rfl (lv_at hl 3 rfl) ?_
              refine lv_iload_n hx hb dX9_findTargets_57 rfl (lv_at hl 4 rfl) ?_
              have hi_8 := h.1
              have h := h.2
              obtain ⟨p_8, hp_8⟩ := cget_24 cI cZ cP cF q S_23 hi_8
              refine vp_callSi (va_Run.run (va_runV (As := [.int x23_2]) (rest := []) ⟨hx, hb, hml, hown, hts⟩ (zd_X8_isDead l D cI cZ cP cF q S_23 y23_1 x23_2  _ h) (cwV 1 hts zg_zd_X9_findTargets_zd_X8_isDead_59 rfl rfl rfl (by decide +kernel) ⟨Nat.le_of_ble_eq_true rfl, Nat.le_of_ble_eq_true rfl⟩) ⟨zCR, va_recv hK hP (ci := 8) (q0 := p_8) rfl hp_8, fun U hU hW => ⟨rfl, by rw [hU]; exact hP, hE.warm hW⟩⟩ rfl rfl hl.1 rfl (lv_room (Nat.le_of_ble_eq_true rfl)) dX9_findTargets_58 ⟨Nat.le_of_ble_eq_true rfl, Nat.le_of_ble_eq_true rfl⟩)) (fun r9 h => ?_)
              refine lv_if_ne (tgt := 84) hx hb dX9_findTargets_61 (by decide) (fun c_10 => ?_) (fun c_10 => ?_)
              · have h := h.1 c_10
                refine lv_iinc (v := x23_2 + 1) (lv' := [(2, .int (x23_2 + 1)), (4, .int r6), (3, .int r4), (0, .ref (q 15 0)), (1, .ref (q 24 y23_1))]) hx hb dX9_findTargets_84 hl (k := 4) rfl rfl (by decide) rfl (fun ls hl => ?_)
                refine lv_goto (tgt := 23) hx hb dX9_findTargets_87 (by decide) ?_
                exact ih_23  S_23 y23_1 (x23_2 + 1) H locs _ h hP hD hS hN (lv_sub hl [3, 4, 0] rfl)
              · have h := h.2 c_10
                refine lv_iload hx hb dX9_findTargets_64 (lv_at hl 0 rfl) ?_
                refine lv_if_lt (tgt := 84) hx hb dX9_findTargets_66 (by decide) (fun c_11 => ?_) (fun c_11 => ?_)
                · have h := h.1 c_11
                  refine lv_iinc (v := x23_2 + 1) (lv' := [(2, .int (x23_2 + 1)), (4, .int r6), (3, .int r4), (0, .ref (q 15 0)), (1, .ref (q 24 y23_1))]) hx hb dX9_findTargets_84 hl (k := 4) rfl rfl (by decide) rfl (fun ls hl => ?_)
                  refine lv_goto (tgt := 23) hx hb dX9_findTargets_87 (by decide) ?_
                  exact ih_23  S_23 y23_1 (x23_2 + 1) H locs _ h hP hD hS hN (lv_sub hl [3, 4, 0] rfl)
                · have h := h.2 c_11
                  refine lv_iload hx hb dX9_findTargets_69 (lv_at hl 0 rfl) ?_
                  refine lv_bipush (v := 60) hx hb dX9_findTargets_71 (by decide) ?_
                  refine lv_icmp_ge (tgt := 84) hx hb dX9_findTargets_73 (by decide) (fun c_12 => ?_) (fun c_12 => ?_)
                  · have h := h.1 c_12
                    refine lv_iinc (v := x23_2 + 1) (lv' := [(2, .int (x23_2 + 1)), (4, .int r6), (3, .int r4), (0, .ref (q 15 0)), (1, .ref (q 24 y23_1))]) hx hb dX9_findTargets_84 hl (k := 4) rfl rfl (by decide) rfl (fun ls hl => ?_)
                    refine lv_goto (tgt := 23) hx hb dX9_findTargets_87 (by decide) ?_
                    exact ih_23  S_23 y23_1 (x23_2 + 1) H locs _ h hP hD hS hN (lv_sub hl [3, 4, 0] rfl)
                  · have h := h.2 c_12
                    refine lv_aload_n hx hb dX9_findTargets_76 rfl (lv_at hl 2 rfl) ?_
                    obtain ⟨p_13, hp_13⟩ := cget_15 cI cZ cP cF q S_23
                    have hi_13 : cin S_23 15 0 := Or.inl ⟨by decide, rfl⟩
                    refine va_get (D := D) (ci := 9) (v := .ref (q 18 0)) (C := RX9) (T := TX9) (N := 5) hx hb hts (fun _ h => List.mem_cons_of_mem _ (List.mem_append_right _ h)) hown hK hP p_13 hp_13 rfl 3 (by decide) (hts (.fieldLink RX9 19 "TemplateForge$Smith" "target" "[Z") (List.mem_of_getElem? (i := 23) rfl)) (fun _ h9 => h9) rfl dX9_findTargets_77 ?_
                    refine lv_iload hx hb dX9_findTargets_80 (lv_at hl 0 rfl) ?_
                    refine lv_iconst (v := 1) hx hb dX9_findTargets_82 (by decide) ?_
                    obtain ⟨p_14, hp_14⟩ := cget_18 cI cZ cP cF q S_23
                    have hi_14 : cin S_23 18 0 := Or.inl ⟨by decide, rfl⟩
                    have hin_14 := h.1
                    have h := h.2
                    have hD0_14 := hD
                    refine va_zast hx hb hK hP hD hS p_14 1 hp_14 rfl hin_14 dX9_findTargets_83 (fun H locs hP hD hS => ?_)
                    obtain ⟨S15, eS15⟩ : ∃ z, z = cs S_23 180 0 (upd (cv S_23 180 0) (r6 : Int32).toNatClampNeg (vp_nar .boolean 1)) := ⟨_, rfl⟩
                    have hP : va_P D vwCl (cW cI cZ cP cF q S15) H := by rw [eS15, ← cW_put (k := 180) (κ := 18) (i := 0) (g := (upd (cv S_23 180 0) (r6 : Int32).toNatClampNeg (vp_nar .boolean 1))) rfl hD0_14 hp_14 hi_14, cput_180]; exact hP
                    have hD : va_D A (cW cI cZ cP cF q S15) := by rw [eS15, ← cW_put (k := 180) (κ := 18) (i := 0) (g := (upd (cv S_23 180 0) (r6 : Int32).toNatClampNeg (vp_nar .boolean 1))) rfl hD0_14 hp_14 hi_14, cput_180]; exact hD
                    have hN : S15.2 = S.2 := by rw [eS15]; exact hN
                    have h := h S15 eS15
                    refine lv_iinc (v := x23_2 + 1) (lv' := [(2, .int (x23_2 + 1)), (4, .int r6), (3, .int r4), (0, .ref (q 15 0)), (1, .ref (q 24 y23_1))]) hx hb dX9_findTargets_84 hl (k := 4) rfl rfl (by decide) rfl (fun ls hl => ?_)
                    refine lv_goto (tgt := 23) hx hb dX9_findTargets_87 (by decide) ?_
                    exact ih_23  S15 y23_1 (x23_2 + 1) H locs _ h hP hD hS hN (lv_sub hl [3, 4, 0] rfl)
            · have h := h.2 c_7
              refine lv_iload_n hx hb dX9_findTargets_50 rfl (lv_at hl 1 rfl) ?_
              refine lv_bipush (v := 10) hx hb dX9_findTargets_51 (by decide) ?_
              refine lv_icmp_ne (tgt := 84) hx hb dX9_findTargets_53 (by decide) (fun c_16 => ?_) (fun c_16 => ?_)
              · have h := h.1 c_16
                refine lv_iinc (v := x23_2 + 1) (lv' := [(2, .int (x23_2 + 1)), (4, .int r6), (3, .int r4), (0, .ref (q 15 0)), (1, .ref (q 24 y23_1))]) hx hb dX9_findTargets_84 hl (k := 4) rfl rfl (by decide) rfl (fun ls hl => ?_)
                refine lv_goto (tgt := 23) hx hb dX9_findTargets_87 (by decide) ?_
                exact ih_23  S_23 y23_1 (x23_2 + 1) H locs _ h hP hD hS hN (lv_sub hl [3, 4, 0] rfl)
              · have h := h.2 c_16
                refine lv_aload_n hx hb dX9_findTargets_56 rfl (lv_at hl 3 rfl) ?_
                refine lv_iload_n hx hb dX9_findTargets_57 rfl (lv_at hl 4 rfl) ?_
                have hi_17 := h.1
                have h := h.2
                obtain ⟨p_17, hp_17⟩ := cget_24 cI cZ cP cF q S_23 hi_17
                refine vp_callSi (va_Run.run (va_runV (As := [.int x23_2]) (rest := []) ⟨hx, hb, hml, hown, hts⟩ (zd_X8_isDead l D cI cZ cP cF q S_23 y23_1 x23_2  _ h) (cwV 1 hts zg_zd_X9_findTargets_zd_X8_isDead_59 rfl rfl rfl (by decide +kernel) ⟨Nat.le_of_ble_eq_true rfl, Nat.le_of_ble_eq_true rfl⟩) ⟨zCR, va_recv hK hP (ci := 8) (q0 := p_17) rfl hp_17, fun U hU hW => ⟨rfl, by rw [hU]; exact hP, hE.warm hW⟩⟩ rfl rfl hl.1 rfl (lv_room (Nat.le_of_ble_eq_true rfl)) dX9_findTargets_58 ⟨Nat.le_of_ble_eq_true rfl, Nat.le_of_ble_eq_true rfl⟩)) (fun r18 h => ?_)
                refine lv_if_ne (tgt := 84) hx hb dX9_findTargets_61 (by decide) (fun c_19 => ?_) (fun c_19 => ?_)
                · have h := h.1 c_19
                  refine lv_iinc (v := x23_2 + 1) (lv' := [(2, .int (x23_2 + 1)), (4, .int r6), (3, .int r4), (0, .ref (q 15 0)), (1, .ref (q 24 y23_1))]) hx hb dX9_findTargets_84 hl (k := 4) rfl rfl (by decide) rfl (fun ls hl => ?_)
                  refine lv_goto (tgt := 23) hx hb dX9_findTargets_87 (by decide) ?_
                  exact ih_23  S_23 y23_1 (x23_2 + 1) H locs _ h hP hD hS hN (lv_sub hl [3, 4, 0] rfl)
                · have h := h.2 c_19
                  refine lv_iload hx hb dX9_findTargets_64 (lv_at hl 0 rfl) ?_
                  refine lv_if_lt (tgt := 84) hx hb dX9_findTargets_66 (by decide) (fun c_20 => ?_) (fun c_20 => ?_)
                  · have h := h.1 c_20
                    refine lv_iinc (v := x23_2 + 1) (lv' := [(2, .int (x23_2 + 1)), (4, .int r6), (3, .int r4), (0, .ref (q 15 0)), (1, .ref (q 24 y23_1))]) hx hb dX9_findTargets_84 hl (k := 4) rfl rfl (by decide) rfl (fun ls hl => ?_)
                    refine lv_goto (tgt := 23) hx hb dX9_findTargets_87 (by decide) ?_
                    exact ih_23  S_23 y23_1 (x23_2 + 1) H locs _ h hP hD hS hN (lv_sub hl [3, 4, 0] rfl)
                  · have h := h.2 c_20
                    refine lv_iload hx hb dX9_findTargets_69 (lv_at hl 0 rfl) ?_
                    refine lv_bipush (v := 60) hx hb dX9_findTargets_71 (by decide) ?_
                    refine lv_icmp_ge (tgt := 84) hx hb dX9_findTargets_73 (by decide) (fun c_21 => ?_) (fun c_21 => ?_)
                    · have h := h.1 c_21
                      refine lv_iinc (v := x23_2 + 1) (lv' := [(2, .int (x23_2 + 1)), (4, .int r6), (3, .int r4), (0, .ref (q 15 0)), (1, .ref (q 24 y23_1))]) hx hb dX9_findTargets_84 hl (k := 4) rfl rfl (by decide) rfl (fun ls hl => ?_)
                      refine lv_goto (tgt := 23) hx hb dX9_findTargets_87 (by decide) ?_
                      exact ih_23  S_23 y23_1 (x23_2 + 1) H locs _ h hP hD hS hN (lv_sub hl [3, 4, 0] rfl)
                    · have h := h.2 c_21
                      refine lv_aload_n hx hb dX9_findTargets_76 rfl (lv_at hl 2 rfl) ?_
                      obtain ⟨p_22, hp_22⟩ := cget_15 cI cZ cP cF q S_23
                      have hi_22 : cin S_23 15 0 := Or.inl ⟨by decide, rfl⟩
                      refine va_get (D := D) (ci := 9) (v := .ref (q 18 0)) (C := RX9) (T := TX9) (N := 5) hx hb hts (fun _ h => List.mem_cons_of_mem _ (List.mem_append_right _ h)) hown hK hP p_22 hp_22 rfl 3 (by decide) (hts (.fieldLink RX9 19 "TemplateForge$Smith" "target" "[Z") (List.mem_of_getElem? (i := 23) rfl)) (fun _ h9 => h9) rfl dX9_findTargets_77 ?_
                      refine lv_iload hx hb dX9_findTargets_80 (lv_at hl 0 rfl) ?_
                      refine lv_iconst (v := 1) hx hb dX9_findTargets_82 (by decide) ?_
                      obtain ⟨p_23, hp_23⟩ := cget_18 cI cZ cP cF q S_23
                      have hi_23 : cin S_23 18 0 := Or.inl ⟨by decide, rfl⟩
                      have hin_23 := h.1
                      have h := h.2
                      have hD0_23 := hD
                      refine va_zast hx hb hK hP hD hS p_23 1 hp_23 rfl hin_23 dX9_findTargets_83 (fun H locs hP hD hS => ?_)
                      obtain ⟨S24, eS24⟩ : ∃ z, z = cs S_23 180 0 (upd (cv S_23 180 0) (r6 : Int32).toNatClampNeg (vp_nar .boolean 1)) := ⟨_, rfl⟩
                      have hP : va_P D vwCl (cW cI cZ cP cF q S24) H := by rw [eS24, ← cW_put (k := 180) (κ := 18) (i := 0) (g := (upd (cv S_23 180 0) (r6 : Int32).toNatClampNeg (vp_nar .boolean 1))) rfl hD0_23 hp_23 hi_23, cput_180]; exact hP
                      have hD : va_D A (cW cI cZ cP cF q S24) := by rw [eS24, ← cW_put (k := 180) (κ := 18) (i := 0) (g := (upd (cv S_23 180 0) (r6 : Int32).toNatClampNeg (vp_nar .boolean 1))) rfl hD0_23 hp_23 hi_23, cput_180]; exact hD
                      have hN : S24.2 = S.2 := by rw [eS24]; exact hN
                      have h := h S24 eS24
                      refine lv_iinc (v := x23_2 + 1) (lv' := [(2, .int (x23_2 + 1)), (4, .int r6), (3, .int r4), (0, .ref (q 15 0)), (1, .ref (q 24 y23_1))]) hx hb dX9_findTargets_84 hl (k := 4) rfl rfl (by decide) rfl (fun ls hl => ?_)
                      refine lv_goto (tgt := 23) hx hb dX9_findTargets_87 (by decide) ?_
                      exact ih_23  S24 y23_1 (x23_2 + 1) H locs _ h hP hD hS hN (lv_sub hl [3, 4, 0] rfl)
      obtain ⟨n_23, h⟩ := h
      exact LP_23 n_23 S_21 y21_1 0 H locs _ h hP hD hS hN (lv_sub hl [1, 2, 0] rfl)
    have LP_2 : ∀ (n_2 : Nat), ∀ (S_2 : CST) (y2_1 : Nat) (x2_2 : Int32) (H : Heap) (locs : List Loc) (ls : Array Slot), wl_X9_findTargets_2 (fun S_21 y21_1 => ∃ n_23, wl_X9_findTargets_23 (fun S_90 => Post S_90) Post n_23 S_21 y21_1 0) Post n_2 S_2 y2_1 x2_2 → va_P D vwCl (cW cI cZ cP cF q S_2) H → va_D A (cW cI cZ cP cF q S_2) → va_S A s.heap H locs → S_2.2 = S.2 → lv_has ls 5 [(0, .ref (q 15 0)), (1, .ref (q 24 y2_1)), (2, .int x2_2)] → W p l e (headSpec zw_zd_X9_findTargets ({ frames := 2, cells := 0, slots := 0, locals := 42 })).room s m ([.ref (q 15 0), .ref (q 24 i1)] : List Value).toArray below meth c H locs 0 0 (MQ below (va_Qv (fun S' => Post S') (fun (S' : CST) t => va_P D vwCl (cW cI cZ cP cF q S') t.heap ∧ va_D A (cW cI cZ cP cF q S') ∧ S'.2 = S.2) A) ([.ref (q 15 0), .ref (q 24 i1)] : List Value).toArray s 0 0 A) (F0 m 2 ls []) := by
      intro n_2
      induction n_2 with
      | zero =>
        intro S_2 y2_1 x2_2 H locs ls h hP hD hS hN hl
        exact False.elim h
      | succ n_2 ih_2 =>
        intro S_2 y2_1 x2_2 H locs ls h hP hD hS hN hl
        unfold wl_X9_findTargets_2 at h
        refine lv_iload_n hx hb dX9_findTargets_2 rfl (lv_at hl 2 rfl) ?_
        refine lv_bipush (v := 60) hx hb dX9_findTargets_3 (by decide) ?_
        refine lv_icmp_ge (tgt := 21) hx hb dX9_findTargets_5 (by decide) (fun c_25 => ?_) (fun c_25 => ?_)
        · have h := h.1 c_25
          exact EX_2_21  S_2 y2_1 H locs _ h hP hD hS hN (lv_sub hl [0, 1] rfl)
        · have h := h.2 c_25
          refine lv_aload_n hx hb dX9_findTargets_8 rfl (lv_at hl 0 rfl) ?_
          obtain ⟨p_26, hp_26⟩ := cget_15 cI cZ cP cF q S_2
          have hi_26 : cin S_2 15 0 := Or.inl ⟨by decide, rfl⟩
          refine va_get (D := D) (ci := 9) (v := .ref (q 18 0)) (C := RX9) (T := TX9) (N := 5) hx hb hts (fun _ h => List.mem_cons_of_mem _ (List.mem_append_right _ h)) hown hK hP p_26 hp_26 rfl 3 (by decide) (hts (.fieldLink RX9 19 "TemplateForge$Smith" "target" "[Z") (List.mem_of_getElem? (i := 23) rfl)) (fun _ h9 => h9) rfl dX9_findTargets_9 ?_
          refine lv_iload_n hx hb dX9_findTargets_12 rfl (lv_at hl 2 rfl) ?_
          refine lv_iconst (v := 0) hx hb dX9_findTargets_13 (by decide) ?_
          obtain ⟨p_27, hp_27⟩ := cget_18 cI cZ cP cF q S_2
          have hi_27 : cin S_2 18 0 := Or.inl ⟨by decide, rfl⟩
          have hin_27 := h.1
          have h := h.2
          have hD0_27 := hD
          refine va_zast hx hb hK hP hD hS p_27 1 hp_27 rfl hin_27 dX9_findTargets_14 (fun H locs hP hD hS => ?_)
          obtain ⟨S28, eS28⟩ : ∃ z, z = cs S_2 180 0 (upd (cv S_2 180 0) (x2_2 : Int32).toNatClampNeg (vp_nar .boolean 0)) := ⟨_, rfl⟩
          have hP : va_P D vwCl (cW cI cZ cP cF q S28) H := by rw [eS28, ← cW_put (k := 180) (κ := 18) (i := 0) (g := (upd (cv S_2 180 0) (x2_2 : Int32).toNatClampNeg (vp_nar .boolean 0))) rfl hD0_27 hp_27 hi_27, cput_180]; exact hP
          have hD : va_D A (cW cI cZ cP cF q S28) := by rw [eS28, ← cW_put (k := 180) (κ := 18) (i := 0) (g := (upd (cv S_2 180 0) (x2_2 : Int32).toNatClampNeg (vp_nar .boolean 0))) rfl hD0_27 hp_27 hi_27, cput_180]; exact hD
          have hN : S28.2 = S.2 := by rw [eS28]; exact hN
          have h := h S28 eS28
          refine lv_iinc (v := x2_2 + 1) (lv' := [(2, .int (x2_2 + 1)), (0, .ref (q 15 0)), (1, .ref (q 24 y2_1))]) hx hb dX9_findTargets_15 hl (k := 2) rfl rfl (by decide) rfl (fun ls hl => ?_)
          refine lv_goto (tgt := 2) hx hb dX9_findTargets_18 (by decide) ?_
          exact ih_2  S28 y2_1 (x2_2 + 1) H locs _ h hP hD hS hN (lv_sub hl [1, 2, 0] rfl)
    obtain ⟨n_2, h⟩ := h
    exact LP_2 n_2 S i1 0 H locs _ h hP hD hS hN (lv_sub hl [1, 2, 0] rfl)
  exact key _ _ hP va_S.rf

def wl_X9_uses_3 (S : CST) (K_49 : Prop) (K_41 : Prop) (Post : Int32 → Prop) : Nat → Nat → Int32 → Int32 → Int32 → Prop
  | 0, _, _, _, _ => False
  | n_3 + 1, y3_1, x3_2, x3_3, x3_4 => cin S 24 y3_1 ∧ ((((cv S 247 y3_1 0) ≤ x3_4) → ((K_49 ))) ∧ ((¬ ((cv S 247 y3_1 0) ≤ x3_4)) → (cin S 24 y3_1 ∧ (wp_X8_opAt S y3_1 x3_4 (fun r4 => ((¬ ((r4 : Int32) = x3_2)) → (wl_X9_uses_3 S K_49 K_41 Post n_3 y3_1 x3_2 x3_3 (x3_4 + 1))) ∧ (((r4 : Int32) = x3_2) → (cin S 24 y3_1 ∧ (wp_X8_xAt S y3_1 x3_4 (fun r7 => ((¬ ((r7 : Int32) = x3_3)) → (wl_X9_uses_3 S K_49 K_41 Post n_3 y3_1 x3_2 x3_3 (x3_4 + 1))) ∧ (((r7 : Int32) = x3_3) → (cin S 24 y3_1 ∧ (wp_X8_isDead S y3_1 x3_4 (fun r10 => ((¬ ((r10 : Int32) = 0)) → (wl_X9_uses_3 S K_49 K_41 Post n_3 y3_1 x3_2 x3_3 (x3_4 + 1))) ∧ (((r10 : Int32) = 0) → ((K_41 ))))))))))))))))
def wp_X9_uses (S : CST) (i1 : Nat) (a2 : Int32) (a3 : Int32) (Post : Int32 → Prop) : Prop :=
  ∃ n_3, wl_X9_uses_3 S (Post 0) (Post 1) Post n_3 i1 a2 a3 0
def zw_zd_X9_uses_w0 : List Cond := [.fieldLink RX9 55 "TemplateForge$Program" "length" "I", .code yX8_opAt cX8_opAt 2 (some .int), .code yX8_has cX8_has 2 (some .boolean), .fieldLink RX8 41 "TemplateForge$Program" "length" "I", .methodLink RX8 44 yX8_has, .instanceMethod yX8_has, .selects RX8 yX8_has yX8_has, .initialized RX8, .fieldLink RX8 18 "TemplateForge$Program" "ops" "[I", .methodLink RX9 86 yX8_opAt, .instanceMethod yX8_opAt, .selects RX8 yX8_opAt yX8_opAt, .code yX8_xAt cX8_xAt 2 (some .int), .fieldLink RX8 22 "TemplateForge$Program" "xs" "[I", .methodLink RX9 99 yX8_xAt, .instanceMethod yX8_xAt]
def zw_zd_X9_uses_w1 : List Cond := [.selects RX8 yX8_xAt yX8_xAt, .code yX8_isDead cX8_isDead 2 (some .boolean), .fieldLink RX8 25 "TemplateForge$Program" "depths" "[I", .methodLink RX9 59 yX8_isDead, .instanceMethod yX8_isDead, .selects RX8 yX8_isDead yX8_isDead]
def zw_zd_X9_uses : List Cond := .code yX9_uses cX9_uses 5 (some .boolean) :: ((zw_zd_X9_uses_w0 ++ (zw_zd_X9_uses_w1)) ++ wsX80)
set_option maxRecDepth 100000 in
theorem zg_zd_X9_uses_zd_X8_opAt_86_a : GoodIn zw_zd_X9_uses [.methodLink RX9 86 yX8_opAt, .instanceMethod yX8_opAt, .selects RX8 yX8_opAt yX8_opAt, .initialized RX8] := goodIn_r _ [10, 11, 12, 8] rfl (by decide +kernel)
set_option maxRecDepth 100000 in
theorem zg_zd_X9_uses_zd_X8_opAt_86_c : GoodIn zw_zd_X9_uses [.code yX8_opAt cX8_opAt 2 (some .int)] := goodIn_r _ [2] rfl (by decide +kernel)
set_option maxRecDepth 100000 in
theorem zg_zd_X9_uses_zd_X8_opAt_86_0 : GoodIn zw_zd_X9_uses zw_zd_X8_opAt_w0 := goodIn_r _ [3, 4, 5, 6, 7, 8, 9] rfl (by decide +kernel)
theorem zg_zd_X9_uses_zd_X8_opAt_86 : GoodIn zw_zd_X9_uses (wsV RX9 86 RX8 yX8_opAt zw_zd_X8_opAt) := goodIn_app zg_zd_X9_uses_zd_X8_opAt_86_a (goodIn_ca (a := (zw_zd_X8_opAt_w0)) (show GoodIn zw_zd_X9_uses (.code yX8_opAt cX8_opAt 2 (some .int) :: (zw_zd_X8_opAt_w0)) from goodIn_app zg_zd_X9_uses_zd_X8_opAt_86_c (zg_zd_X9_uses_zd_X8_opAt_86_0)) (fun w h => ⟨(fun _ h => List.mem_cons_of_mem _ (List.mem_append_right _ h)) w h, good_of_word (List.all_eq_true.mp zgw_X8 w h)⟩))
set_option maxRecDepth 100000 in
theorem zg_zd_X9_uses_zd_X8_xAt_99_a : GoodIn zw_zd_X9_uses [.methodLink RX9 99 yX8_xAt, .instanceMethod yX8_xAt, .selects RX8 yX8_xAt yX8_xAt, .initialized RX8] := goodIn_r _ [15, 16, 17, 8] rfl (by decide +kernel)
set_option maxRecDepth 100000 in
theorem zg_zd_X9_uses_zd_X8_xAt_99_c : GoodIn zw_zd_X9_uses [.code yX8_xAt cX8_xAt 2 (some .int)] := goodIn_r _ [13] rfl (by decide +kernel)
set_option maxRecDepth 100000 in
theorem zg_zd_X9_uses_zd_X8_xAt_99_0 : GoodIn zw_zd_X9_uses zw_zd_X8_xAt_w0 := goodIn_r _ [3, 4, 5, 6, 7, 8, 14] rfl (by decide +kernel)
theorem zg_zd_X9_uses_zd_X8_xAt_99 : GoodIn zw_zd_X9_uses (wsV RX9 99 RX8 yX8_xAt zw_zd_X8_xAt) := goodIn_app zg_zd_X9_uses_zd_X8_xAt_99_a (goodIn_ca (a := (zw_zd_X8_xAt_w0)) (show GoodIn zw_zd_X9_uses (.code yX8_xAt cX8_xAt 2 (some .int) :: (zw_zd_X8_xAt_w0)) from goodIn_app zg_zd_X9_uses_zd_X8_xAt_99_c (zg_zd_X9_uses_zd_X8_xAt_99_0)) (fun w h => ⟨(fun _ h => List.mem_cons_of_mem _ (List.mem_append_right _ h)) w h, good_of_word (List.all_eq_true.mp zgw_X8 w h)⟩))
set_option maxRecDepth 100000 in
theorem zg_zd_X9_uses_zd_X8_isDead_59_a : GoodIn zw_zd_X9_uses [.methodLink RX9 59 yX8_isDead, .instanceMethod yX8_isDead, .selects RX8 yX8_isDead yX8_isDead, .initialized RX8] := goodIn_r _ [20, 21, 22, 8] rfl (by decide +kernel)
set_option maxRecDepth 100000 in
theorem zg_zd_X9_uses_zd_X8_isDead_59_c : GoodIn zw_zd_X9_uses [.code yX8_isDead cX8_isDead 2 (some .boolean)] := goodIn_r _ [18] rfl (by decide +kernel)
set_option maxRecDepth 100000 in
theorem zg_zd_X9_uses_zd_X8_isDead_59_0 : GoodIn zw_zd_X9_uses zw_zd_X8_isDead_w0 := goodIn_r _ [3, 4, 5, 6, 7, 8, 19] rfl (by decide +kernel)
theorem zg_zd_X9_uses_zd_X8_isDead_59 : GoodIn zw_zd_X9_uses (wsV RX9 59 RX8 yX8_isDead zw_zd_X8_isDead) := goodIn_app zg_zd_X9_uses_zd_X8_isDead_59_a (goodIn_ca (a := (zw_zd_X8_isDead_w0)) (show GoodIn zw_zd_X9_uses (.code yX8_isDead cX8_isDead 2 (some .boolean) :: (zw_zd_X8_isDead_w0)) from goodIn_app zg_zd_X9_uses_zd_X8_isDead_59_c (zg_zd_X9_uses_zd_X8_isDead_59_0)) (fun w h => ⟨(fun _ h => List.mem_cons_of_mem _ (List.mem_append_right _ h)) w h, good_of_word (List.all_eq_true.mp zgw_X8 w h)⟩))
set_option maxHeartbeats 16000000 in
set_option maxRecDepth 100000 in
theorem zd_X9_uses (l : Launch) (D : va_G) (cI cZ cP cF : Nat) (q : Nat → Nat → Nat) (S : CST) (i1 : Nat) (a2 : Int32) (a3 : Int32) (Post : Int32 → Prop) (h : wp_X9_uses S i1 a2 a3 Post) : Met l yX9_uses zw_zd_X9_uses ({ frames := 2, cells := 0, slots := 0, locals := 42 }) (va_Pc [.ref (q 15 0), .ref (q 24 i1), .int a2, .int a3] (fun U => va_P D vwCl (cW cI cZ cP cF q S) U.heap ∧ zF D cI cZ cP cF U)) (vp_Si Post) 0 0 (fun _ => False) := by
  unfold wp_X9_uses at h
  refine Met.ofW (cc := cX9_uses) (maxL := 5) (ret := (some .boolean)) (by decide) rfl ?_
  intro p e s m args below meth c s₁ B hml hv
  obtain ⟨rfl, hP, hE⟩ := hv
  have hx := B.exec
  have hb := B.bytes
  have hr := B.returns
  have hts := atoms_spec (ws := zw_zd_X9_uses) B.pre
  have hown : s.vm.findClass RX9 = some m.cls := findClass_of_methodNamed B.named
  have hlocks := B.notSynchronized
  have hK := hE.k
  have hl := lv_entry ([.ref (q 15 0), .ref (q 24 i1), .int a2, .int a3]) (n := 5) (Nat.le_of_ble_eq_true rfl)
  rw [lg_entry_eq]
  generalize (lg_sl ([.ref (q 15 0), .ref (q 24 i1), .int a2, .int a3]) ++ List.replicate (5 - (lg_sl ([.ref (q 15 0), .ref (q 24 i1), .int a2, .int a3])).length) Slot.unset).toArray = ls at hl ⊢
  have hl : lv_has ls 5 [(0, .ref (q 15 0)), (1, .ref (q 24 i1)), (2, .int a2), (3, .int a3)] := hl
  refine lv_iconst (v := 0) hx hb dX9_uses_0 (by decide) ?_
  refine lv_istore (lv' := [(4, .int 0), (0, .ref (q 15 0)), (1, .ref (q 24 i1)), (2, .int a2), (3, .int a3)]) hx hb dX9_uses_1 hl (by decide) rfl (fun ls hl => ?_)
  have EX_3_49 : ∀ (ls : Array Slot), (Post 0) → lv_has ls 5 [] → W p l e (headSpec zw_zd_X9_uses ({ frames := 2, cells := 0, slots := 0, locals := 42 })).room s m ([.ref (q 15 0), .ref (q 24 i1), .int a2, .int a3] : List Value).toArray below meth c s.heap [] 0 0 (MQ below (vp_Si Post) ([.ref (q 15 0), .ref (q 24 i1), .int a2, .int a3] : List Value).toArray s 0 0 (fun _ => False)) (F0 m 49 ls []) := by
    intro  ls h hl
    refine lv_iconst (v := 0) hx hb dX9_uses_49 (by decide) ?_
    exact W.zret (v := 0) (ty := .boolean) hx hb hr (by decide) (fun t ht hW => ⟨_, rfl, h, ht⟩) (fun q h => by cases h) dX9_uses_50
  have EX_3_41 : ∀ (ls : Array Slot), (Post 1) → lv_has ls 5 [] → W p l e (headSpec zw_zd_X9_uses ({ frames := 2, cells := 0, slots := 0, locals := 42 })).room s m ([.ref (q 15 0), .ref (q 24 i1), .int a2, .int a3] : List Value).toArray below meth c s.heap [] 0 0 (MQ below (vp_Si Post) ([.ref (q 15 0), .ref (q 24 i1), .int a2, .int a3] : List Value).toArray s 0 0 (fun _ => False)) (F0 m 41 ls []) := by
    intro  ls h hl
    refine lv_iconst (v := 1) hx hb dX9_uses_41 (by decide) ?_
    exact W.zret (v := 1) (ty := .boolean) hx hb hr (by decide) (fun t ht hW => ⟨_, rfl, h, ht⟩) (fun q h => by cases h) dX9_uses_42
  have LP_3 : ∀ (n_3 : Nat), ∀ (y3_1 : Nat) (x3_2 : Int32) (x3_3 : Int32) (x3_4 : Int32) (ls : Array Slot), wl_X9_uses_3 S (Post 0) (Post 1) Post n_3 y3_1 x3_2 x3_3 x3_4 → lv_has ls 5 [(1, .ref (q 24 y3_1)), (2, .int x3_2), (3, .int x3_3), (4, .int x3_4)] → W p l e (headSpec zw_zd_X9_uses ({ frames := 2, cells := 0, slots := 0, locals := 42 })).room s m ([.ref (q 15 0), .ref (q 24 i1), .int a2, .int a3] : List Value).toArray below meth c s.heap [] 0 0 (MQ below (vp_Si Post) ([.ref (q 15 0), .ref (q 24 i1), .int a2, .int a3] : List Value).toArray s 0 0 (fun _ => False)) (F0 m 3 ls []) := by
    intro n_3
    induction n_3 with
    | zero =>
      intro y3_1 x3_2 x3_3 x3_4 ls h hl
      exact False.elim h
    | succ n_3 ih_3 =>
      intro y3_1 x3_2 x3_3 x3_4 ls h hl
      unfold wl_X9_uses_3 at h
      refine lv_iload hx hb dX9_uses_3 (lv_at hl 3 rfl) ?_
      refine lv_aload_n hx hb dX9_uses_5 rfl (lv_at hl 0 rfl) ?_
      have hi_1 := h.1
      have h := h.2
      obtain ⟨p_1, hp_1⟩ := cget_24 cI cZ cP cF q S hi_1
      refine va_get (D := D) (ci := 8) (v := .int (cv S 247 y3_1 0)) (C := RX8) (T := TX8) (N := 10) hx hb hts (fun _ h => List.mem_cons_of_mem _ (List.mem_append_right _ h)) hown hK hP p_1 hp_1 rfl 7 (by decide) (hts (.fieldLink RX9 55 "TemplateForge$Program" "length" "I") (List.mem_of_getElem? (i := 1) rfl)) (fun _ h9 => h9) rfl dX9_uses_6 ?_
      refine lv_icmp_ge (tgt := 49) hx hb dX9_uses_9 (by decide) (fun c_2 => ?_) (fun c_2 => ?_)
      · have h := h.1 c_2
        exact EX_3_49  _ h (lv_sub hl [] rfl)
      · have h := h.2 c_2
        refine lv_aload_n hx hb dX9_uses_12 rfl (lv_at hl 0 rfl) ?_
        refine lv_iload hx hb dX9_uses_13 (lv_at hl 3 rfl) ?_
        have hi_3 := h.1
        have h := h.2
        obtain ⟨p_3, hp_3⟩ := cget_24 cI cZ cP cF q S hi_3
        refine vp_callSi (va_Run.run (va_runV (As := [.int x3_4]) (rest := []) ⟨hx, hb, hml, hown, hts⟩ (zd_X8_opAt l D cI cZ cP cF q S y3_1 x3_4  _ h) (cwV 1 hts zg_zd_X9_uses_zd_X8_opAt_86 rfl rfl rfl (by decide +kernel) ⟨Nat.le_of_ble_eq_true rfl, Nat.le_of_ble_eq_true rfl⟩) ⟨zCR, va_recv hK hP (ci := 8) (q0 := p_3) rfl hp_3, fun U hU hW => ⟨rfl, by rw [hU]; exact hP, hE.warm hW⟩⟩ rfl rfl hl.1 rfl (lv_room (Nat.le_of_ble_eq_true rfl)) dX9_uses_15 ⟨Nat.le_of_ble_eq_true rfl, Nat.le_of_ble_eq_true rfl⟩)) (fun r4 h => ?_)
        refine lv_iload_n hx hb dX9_uses_18 rfl (lv_at hl 1 rfl) ?_
        refine lv_icmp_ne (tgt := 43) hx hb dX9_uses_19 (by decide) (fun c_5 => ?_) (fun c_5 => ?_)
        · have h := h.1 c_5
          refine lv_iinc (v := x3_4 + 1) (lv' := [(4, .int (x3_4 + 1)), (1, .ref (q 24 y3_1)), (2, .int x3_2), (3, .int x3_3)]) hx hb dX9_uses_43 hl (k := 3) rfl rfl (by decide) rfl (fun ls hl => ?_)
          refine lv_goto (tgt := 3) hx hb dX9_uses_46 (by decide) ?_
          exact ih_3  y3_1 x3_2 x3_3 (x3_4 + 1) _ h (lv_sub hl [1, 2, 3, 0] rfl)
        · have h := h.2 c_5
          refine lv_aload_n hx hb dX9_uses_22 rfl (lv_at hl 0 rfl) ?_
          refine lv_iload hx hb dX9_uses_23 (lv_at hl 3 rfl) ?_
          have hi_6 := h.1
          have h := h.2
          obtain ⟨p_6, hp_6⟩ := cget_24 cI cZ cP cF q S hi_6
          refine vp_callSi (va_Run.run (va_runV (As := [.int x3_4]) (rest := []) ⟨hx, hb, hml, hown, hts⟩ (zd_X8_xAt l D cI cZ cP cF q S y3_1 x3_4  _ h) (cwV 1 hts zg_zd_X9_uses_zd_X8_xAt_99 rfl rfl rfl (by decide +kernel) ⟨Nat.le_of_ble_eq_true rfl, Nat.le_of_ble_eq_true rfl⟩) ⟨zCR, va_recv hK hP (ci := 8) (q0 := p_6) rfl hp_6, fun U hU hW => ⟨rfl, by rw [hU]; exact hP, hE.warm hW⟩⟩ rfl rfl hl.1 rfl (lv_room (Nat.le_of_ble_eq_true rfl)) dX9_uses_25 ⟨Nat.le_of_ble_eq_true rfl, Nat.le_of_ble_eq_true rfl⟩)) (fun r7 h => ?_)
          refine lv_iload_n hx hb dX9_uses_28 rfl (lv_at hl 2 rfl) ?_
          refine lv_icmp_ne (tgt := 43) hx hb dX9_uses_29 (by decide) (fun c_8 => ?_) (fun c_8 => ?_)
          · have h := h.1 c_8
            refine lv_iinc (v := x3_4 + 1) (lv' := [(4, .int (x3_4 + 1)), (1, .ref (q 24 y3_1)), (2, .int x3_2), (3, .int x3_3)]) hx hb dX9_uses_43 hl (k := 3) rfl rfl (by decide) rfl (fun ls hl => ?_)
            refine lv_goto (tgt := 3) hx hb dX9_uses_46 (by decide) ?_
            exact ih_3  y3_1 x3_2 x3_3 (x3_4 + 1) _ h (lv_sub hl [1, 2, 3, 0] rfl)
          · have h := h.2 c_8
            refine lv_aload_n hx hb dX9_uses_32 rfl (lv_at hl 0 rfl) ?_
            refine lv_iload hx hb dX9_uses_33 (lv_at hl 3 rfl) ?_
            have hi_9 := h.1
            have h := h.2
            obtain ⟨p_9, hp_9⟩ := cget_24 cI cZ cP cF q S hi_9
            refine vp_callSi (va_Run.run (va_runV (As := [.int x3_4]) (rest := []) ⟨hx, hb, hml, hown, hts⟩ (zd_X8_isDead l D cI cZ cP cF q S y3_1 x3_4  _ h) (cwV 1 hts zg_zd_X9_uses_zd_X8_isDead_59 rfl rfl rfl (by decide +kernel) ⟨Nat.le_of_ble_eq_true rfl, Nat.le_of_ble_eq_true rfl⟩) ⟨zCR, va_recv hK hP (ci := 8) (q0 := p_9) rfl hp_9, fun U hU hW => ⟨rfl, by rw [hU]; exact hP, hE.warm hW⟩⟩ rfl rfl hl.1 rfl (lv_room (Nat.le_of_ble_eq_true rfl)) dX9_uses_35 ⟨Nat.le_of_ble_eq_true rfl, Nat.le_of_ble_eq_true rfl⟩)) (fun r10 h => ?_)
            refine lv_if_ne (tgt := 43) hx hb dX9_uses_38 (by decide) (fun c_11 => ?_) (fun c_11 => ?_)
            · have h := h.1 c_11
              refine lv_iinc (v := x3_4 + 1) (lv' := [(4, .int (x3_4 + 1)), (1, .ref (q 24 y3_1)), (2, .int x3_2), (3, .int x3_3)]) hx hb dX9_uses_43 hl (k := 3) rfl rfl (by decide) rfl (fun ls hl => ?_)
              refine lv_goto (tgt := 3) hx hb dX9_uses_46 (by decide) ?_
              exact ih_3  y3_1 x3_2 x3_3 (x3_4 + 1) _ h (lv_sub hl [1, 2, 3, 0] rfl)
            · have h := h.2 c_11
              exact EX_3_41  _ h (lv_sub hl [] rfl)
  obtain ⟨n_3, h⟩ := h
  exact LP_3 n_3 i1 a2 a3 0 _ h (lv_sub hl [2, 3, 4, 0] rfl)

def wl_X9_assume_2 (K_112 : CST → Prop) (Post : CST → Prop) : Nat → CST → Nat → Int32 → Prop
  | 0, _, _, _ => False
  | n_2 + 1, S_2, y2_1, x2_2 => ((11 ≤ x2_2) → ((K_112 S_2 ))) ∧ ((¬ (11 ≤ x2_2)) → (((3 ≤ x2_2) → (cin S_2 24 y2_1 ∧ (cin S_2 28 y2_1 ∧ (wp_X5_wasAlways S_2 y2_1 x2_2 (fun r6 => (((r6 : Int32) = 0) → (vp_in x2_2 11 ∧ (∀ S9 : CST, S9 = cs S_2 190 0 (upd (cv S_2 190 0) (x2_2 : Int32).toNatClampNeg (vp_nar .boolean 0)) → (wl_X9_assume_2 K_112 Post n_2 S9 y2_1 (x2_2 + 1))))) ∧ ((¬ ((r6 : Int32) = 0)) → (wp_X9_uses S_2 y2_1 13 (x2_2 - 3) (fun r11 => (((r11 : Int32) = 0) → (vp_in x2_2 11 ∧ (∀ S14 : CST, S14 = cs S_2 190 0 (upd (cv S_2 190 0) (x2_2 : Int32).toNatClampNeg (vp_nar .boolean 0)) → (wl_X9_assume_2 K_112 Post n_2 S14 y2_1 (x2_2 + 1))))) ∧ ((¬ ((r11 : Int32) = 0)) → (wp_X9_uses S_2 y2_1 14 (x2_2 - 3) (fun r16 => ((¬ ((r16 : Int32) = 0)) → (vp_in x2_2 11 ∧ (∀ S19 : CST, S19 = cs S_2 190 0 (upd (cv S_2 190 0) (x2_2 : Int32).toNatClampNeg (vp_nar .boolean 0)) → (wl_X9_assume_2 K_112 Post n_2 S19 y2_1 (x2_2 + 1))))) ∧ (((r16 : Int32) = 0) → (vp_in x2_2 11 ∧ (∀ S21 : CST, S21 = cs S_2 190 0 (upd (cv S_2 190 0) (x2_2 : Int32).toNatClampNeg (vp_nar .boolean 1)) → (wl_X9_assume_2 K_112 Post n_2 S21 y2_1 (x2_2 + 1)))))))))))))))) ∧ ((¬ (3 ≤ x2_2)) → (cin S_2 24 y2_1 ∧ ((((cv S_2 241 y2_1 0) ≤ x2_2) → (vp_in x2_2 11 ∧ (∀ S26 : CST, S26 = cs S_2 190 0 (upd (cv S_2 190 0) (x2_2 : Int32).toNatClampNeg (vp_nar .boolean 0)) → (wl_X9_assume_2 K_112 Post n_2 S26 y2_1 (x2_2 + 1))))) ∧ ((¬ ((cv S_2 241 y2_1 0) ≤ x2_2)) → (cin S_2 24 y2_1 ∧ (cin S_2 28 y2_1 ∧ (wp_X5_wasAlways S_2 y2_1 x2_2 (fun r29 => (((r29 : Int32) = 0) → (vp_in x2_2 11 ∧ (∀ S32 : CST, S32 = cs S_2 190 0 (upd (cv S_2 190 0) (x2_2 : Int32).toNatClampNeg (vp_nar .boolean 0)) → (wl_X9_assume_2 K_112 Post n_2 S32 y2_1 (x2_2 + 1))))) ∧ ((¬ ((r29 : Int32) = 0)) → (wp_X9_uses S_2 y2_1 1 x2_2 (fun r34 => (((r34 : Int32) = 0) → (vp_in x2_2 11 ∧ (∀ S37 : CST, S37 = cs S_2 190 0 (upd (cv S_2 190 0) (x2_2 : Int32).toNatClampNeg (vp_nar .boolean 0)) → (wl_X9_assume_2 K_112 Post n_2 S37 y2_1 (x2_2 + 1))))) ∧ ((¬ ((r34 : Int32) = 0)) → (wp_X9_uses S_2 y2_1 2 x2_2 (fun r39 => ((¬ ((r39 : Int32) = 0)) → (vp_in x2_2 11 ∧ (∀ S42 : CST, S42 = cs S_2 190 0 (upd (cv S_2 190 0) (x2_2 : Int32).toNatClampNeg (vp_nar .boolean 0)) → (wl_X9_assume_2 K_112 Post n_2 S42 y2_1 (x2_2 + 1))))) ∧ (((r39 : Int32) = 0) → (vp_in x2_2 11 ∧ (∀ S44 : CST, S44 = cs S_2 190 0 (upd (cv S_2 190 0) (x2_2 : Int32).toNatClampNeg (vp_nar .boolean 1)) → (wl_X9_assume_2 K_112 Post n_2 S44 y2_1 (x2_2 + 1)))))))))))))))))))))
def wp_X9_assume (S : CST) (i1 : Nat) (Post : CST → Prop) : Prop :=
  ∃ n_2, wl_X9_assume_2 (fun S_112 => Post S_112) Post n_2 S i1 0
def zw_zd_X9_assume_w0 : List Cond := [.fieldLink RX9 22 "TemplateForge$Smith" "assumed" "[Z", .fieldLink RX9 41 "TemplateForge$Program" "heat" "LTemplateForge$Heat;", .code yX5_wasAlways cX5_wasAlways 2 (some .boolean), .fieldLink RX5 26 "TemplateForge$Heat" "counted" "I", .fieldLink RX5 15 "TemplateForge$Heat" "same" "[Z", .fieldLink RX5 19 "TemplateForge$Heat" "varying" "[Z", .methodLink RX9 105 yX5_wasAlways, .instanceMethod yX5_wasAlways, .selects RX5 yX5_wasAlways yX5_wasAlways, .initialized RX5, .code yX9_uses cX9_uses 5 (some .boolean), .fieldLink RX9 55 "TemplateForge$Program" "length" "I", .code yX8_opAt cX8_opAt 2 (some .int), .code yX8_has cX8_has 2 (some .boolean), .fieldLink RX8 41 "TemplateForge$Program" "length" "I", .methodLink RX8 44 yX8_has]
def zw_zd_X9_assume_w1 : List Cond := [.instanceMethod yX8_has, .selects RX8 yX8_has yX8_has, .initialized RX8, .fieldLink RX8 18 "TemplateForge$Program" "ops" "[I", .methodLink RX9 86 yX8_opAt, .instanceMethod yX8_opAt, .selects RX8 yX8_opAt yX8_opAt, .code yX8_xAt cX8_xAt 2 (some .int), .fieldLink RX8 22 "TemplateForge$Program" "xs" "[I", .methodLink RX9 99 yX8_xAt, .instanceMethod yX8_xAt, .selects RX8 yX8_xAt yX8_xAt, .code yX8_isDead cX8_isDead 2 (some .boolean), .fieldLink RX8 25 "TemplateForge$Program" "depths" "[I", .methodLink RX9 59 yX8_isDead, .instanceMethod yX8_isDead]
def zw_zd_X9_assume_w2 : List Cond := [.selects RX8 yX8_isDead yX8_isDead, .methodLink RX9 108 yX9_uses, .instanceMethod yX9_uses, .selects RX9 yX9_uses yX9_uses, .initialized RX9, .fieldLink RX9 102 "TemplateForge$Program" "args" "I"]
def zw_zd_X9_assume : List Cond := .code yX9_assume cX9_assume 5 none :: ((zw_zd_X9_assume_w0 ++ (zw_zd_X9_assume_w1 ++ (zw_zd_X9_assume_w2))) ++ wsX90 ++ wsX80 ++ wsX50)
set_option maxRecDepth 100000 in
theorem zg_zd_X9_assume_zd_X5_wasAlways_105_a : GoodIn zw_zd_X9_assume [.methodLink RX9 105 yX5_wasAlways, .instanceMethod yX5_wasAlways, .selects RX5 yX5_wasAlways yX5_wasAlways, .initialized RX5] := goodIn_r _ [7, 8, 9, 10] rfl (by decide +kernel)
set_option maxRecDepth 100000 in
theorem zg_zd_X9_assume_zd_X5_wasAlways_105_c : GoodIn zw_zd_X9_assume [.code yX5_wasAlways cX5_wasAlways 2 (some .boolean)] := goodIn_r _ [3] rfl (by decide +kernel)
set_option maxRecDepth 100000 in
theorem zg_zd_X9_assume_zd_X5_wasAlways_105_0 : GoodIn zw_zd_X9_assume zw_zd_X5_wasAlways_w0 := goodIn_r _ [4, 5, 6] rfl (by decide +kernel)
theorem zg_zd_X9_assume_zd_X5_wasAlways_105 : GoodIn zw_zd_X9_assume (wsV RX9 105 RX5 yX5_wasAlways zw_zd_X5_wasAlways) := goodIn_app zg_zd_X9_assume_zd_X5_wasAlways_105_a (goodIn_ca (a := (zw_zd_X5_wasAlways_w0)) (show GoodIn zw_zd_X9_assume (.code yX5_wasAlways cX5_wasAlways 2 (some .boolean) :: (zw_zd_X5_wasAlways_w0)) from goodIn_app zg_zd_X9_assume_zd_X5_wasAlways_105_c (zg_zd_X9_assume_zd_X5_wasAlways_105_0)) (fun w h => ⟨(fun _ h => List.mem_cons_of_mem _ (List.mem_append_right _ h)) w h, good_of_word (List.all_eq_true.mp zgw_X5 w h)⟩))
set_option maxRecDepth 100000 in
theorem zg_zd_X9_assume_zd_X9_uses_108_a : GoodIn zw_zd_X9_assume [.methodLink RX9 108 yX9_uses, .instanceMethod yX9_uses, .selects RX9 yX9_uses yX9_uses, .initialized RX9] := goodIn_r _ [34, 35, 36, 37] rfl (by decide +kernel)
set_option maxRecDepth 100000 in
theorem zg_zd_X9_assume_zd_X9_uses_108_c : GoodIn zw_zd_X9_assume [.code yX9_uses cX9_uses 5 (some .boolean)] := goodIn_r _ [11] rfl (by decide +kernel)
set_option maxRecDepth 100000 in
theorem zg_zd_X9_assume_zd_X9_uses_108_0 : GoodIn zw_zd_X9_assume zw_zd_X9_uses_w0 := goodIn_r _ [12, 13, 14, 15, 16, 17, 18, 19, 20, 21, 22, 23, 24, 25, 26, 27] rfl (by decide +kernel)
set_option maxRecDepth 100000 in
theorem zg_zd_X9_assume_zd_X9_uses_108_1 : GoodIn zw_zd_X9_assume zw_zd_X9_uses_w1 := goodIn_r _ [28, 29, 30, 31, 32, 33] rfl (by decide +kernel)
theorem zg_zd_X9_assume_zd_X9_uses_108 : GoodIn zw_zd_X9_assume (wsV RX9 108 RX9 yX9_uses zw_zd_X9_uses) := goodIn_app zg_zd_X9_assume_zd_X9_uses_108_a (goodIn_ca (a := (zw_zd_X9_uses_w0 ++ (zw_zd_X9_uses_w1))) (show GoodIn zw_zd_X9_assume (.code yX9_uses cX9_uses 5 (some .boolean) :: (zw_zd_X9_uses_w0 ++ (zw_zd_X9_uses_w1))) from goodIn_app zg_zd_X9_assume_zd_X9_uses_108_c (goodIn_app zg_zd_X9_assume_zd_X9_uses_108_0 (zg_zd_X9_assume_zd_X9_uses_108_1))) (fun w h => ⟨(fun _ h => List.mem_cons_of_mem _ (List.mem_append_left _ (List.mem_append_right _ h))) w h, good_of_word (List.all_eq_true.mp zgw_X8 w h)⟩))
set_option maxHeartbeats 16000000 in
set_option maxRecDepth 100000 in
theorem zd_X9_assume (l : Launch) (D : va_G) (cI cZ cP cF : Nat) (q : Nat → Nat → Nat) (S : CST) (i1 : Nat) (sz : Nat) (Post : CST → Prop) (h : wp_X9_assume S i1 Post) : Met l yX9_assume zw_zd_X9_assume ({ frames := 3, cells := 0, slots := 0, locals := 66 }) (va_Pc [.ref (q 15 0), .ref (q 24 i1)] (fun U => U.heap.size = sz ∧ va_P D vwCl (cW cI cZ cP cF q S) U.heap ∧ zF D cI cZ cP cF U ∧ va_D (fun _ => True) (cW cI cZ cP cF q S))) (va_Qv (fun S' => Post S') (fun (S' : CST) t => va_P D vwCl (cW cI cZ cP cF q S') t.heap ∧ va_D (va_A (cW cI cZ cP cF q S) sz) (cW cI cZ cP cF q S') ∧ S'.2 = S.2) (va_A (cW cI cZ cP cF q S) sz)) 0 0 (va_A (cW cI cZ cP cF q S) sz) := by
  unfold wp_X9_assume at h
  refine Met.ofW (cc := cX9_assume) (maxL := 5) (ret := none) (by decide) rfl ?_
  intro p e s m args below meth c s₁ B hml hv
  obtain ⟨rfl, hsz, hP, hE, hD0⟩ := hv
  have hx := B.exec
  have hb := B.bytes
  have hr := B.returns
  have hts := atoms_spec (ws := zw_zd_X9_assume) B.pre
  have hown : s.vm.findClass RX9 = some m.cls := findClass_of_methodNamed B.named
  have hlocks := B.notSynchronized
  have hK := hE.k
  subst hsz
  have hD := hD0.self (sz := s.heap.size)
  generalize hAe : va_A (cW cI cZ cP cF q S) s.heap.size = A at hD ⊢
  have hA : ∀ q : Nat, s.heap.size ≤ q → A q := fun q h => by rw [← hAe]; exact Or.inr h
  have hN : S.2 = S.2 := rfl
  have hl := lv_entry ([.ref (q 15 0), .ref (q 24 i1)]) (n := 5) (Nat.le_of_ble_eq_true rfl)
  rw [lg_entry_eq]
  generalize (lg_sl ([.ref (q 15 0), .ref (q 24 i1)]) ++ List.replicate (5 - (lg_sl ([.ref (q 15 0), .ref (q 24 i1)])).length) Slot.unset).toArray = ls at hl ⊢
  have hl : lv_has ls 5 [(0, .ref (q 15 0)), (1, .ref (q 24 i1))] := hl
  have key : ∀ (H : Heap) (locs : List Loc), va_P D vwCl (cW cI cZ cP cF q S) H → va_S A s.heap H locs → W p l e (headSpec zw_zd_X9_assume ({ frames := 3, cells := 0, slots := 0, locals := 66 })).room s m ([.ref (q 15 0), .ref (q 24 i1)] : List Value).toArray below meth c H locs 0 0 (MQ below (va_Qv (fun S' => Post S') (fun (S' : CST) t => va_P D vwCl (cW cI cZ cP cF q S') t.heap ∧ va_D A (cW cI cZ cP cF q S') ∧ S'.2 = S.2) A) ([.ref (q 15 0), .ref (q 24 i1)] : List Value).toArray s 0 0 A) (F0 m 0 ls []) := by
    intro H locs hP hS
    refine lv_iconst (v := 0) hx hb dX9_assume_0 (by decide) ?_
    refine lv_istore_n (lv' := [(2, .int 0), (0, .ref (q 15 0)), (1, .ref (q 24 i1))]) hx hb dX9_assume_1 rfl hl (by decide) rfl (fun ls hl => ?_)
    have EX_2_112 : ∀ (S_112 : CST) (H : Heap) (locs : List Loc) (ls : Array Slot), (Post S_112) → va_P D vwCl (cW cI cZ cP cF q S_112) H → va_D A (cW cI cZ cP cF q S_112) → va_S A s.heap H locs → S_112.2 = S.2 → lv_has ls 5 [] → W p l e (headSpec zw_zd_X9_assume ({ frames := 3, cells := 0, slots := 0, locals := 66 })).room s m ([.ref (q 15 0), .ref (q 24 i1)] : List Value).toArray below meth c H locs 0 0 (MQ below (va_Qv (fun S' => Post S') (fun (S' : CST) t => va_P D vwCl (cW cI cZ cP cF q S') t.heap ∧ va_D A (cW cI cZ cP cF q S') ∧ S'.2 = S.2) A) ([.ref (q 15 0), .ref (q 24 i1)] : List Value).toArray s 0 0 A) (F0 m 112 ls []) := by
      intro S_112  H locs ls h hP hD hS hN hl
      exact W.vret hx hb hr (fun t ht hW => ⟨⟨S_112, rfl, h, by rw [ht]; exact hP, hD, hN⟩, hS.F ht⟩) hS.2.2 dX9_assume_112
    have LP_2 : ∀ (n_2 : Nat), ∀ (S_2 : CST) (y2_1 : Nat) (x2_2 : Int32) (H : Heap) (locs : List Loc) (ls : Array Slot), wl_X9_assume_2 (fun S_112 => Post S_112) Post n_2 S_2 y2_1 x2_2 → va_P D vwCl (cW cI cZ cP cF q S_2) H → va_D A (cW cI cZ cP cF q S_2) → va_S A s.heap H locs → S_2.2 = S.2 → lv_has ls 5 [(0, .ref (q 15 0)), (1, .ref (q 24 y2_1)), (2, .int x2_2)] → W p l e (headSpec zw_zd_X9_assume ({ frames := 3, cells := 0, slots := 0, locals := 66 })).room s m ([.ref (q 15 0), .ref (q 24 i1)] : List Value).toArray below meth c H locs 0 0 (MQ below (va_Qv (fun S' => Post S') (fun (S' : CST) t => va_P D vwCl (cW cI cZ cP cF q S') t.heap ∧ va_D A (cW cI cZ cP cF q S') ∧ S'.2 = S.2) A) ([.ref (q 15 0), .ref (q 24 i1)] : List Value).toArray s 0 0 A) (F0 m 2 ls []) := by
      intro n_2
      induction n_2 with
      | zero =>
        intro S_2 y2_1 x2_2 H locs ls h hP hD hS hN hl
        exact False.elim h
      | succ n_2 ih_2 =>
        intro S_2 y2_1 x2_2 H locs ls h hP hD hS hN hl
        unfold wl_X9_assume_2 at h
        refine lv_iload_n hx hb dX9_assume_2 rfl (lv_at hl 2 rfl) ?_
        refine lv_bipush (v := 11) hx hb dX9_assume_3 (by decide) ?_
        refine lv_icmp_ge (tgt := 112) hx hb dX9_assume_5 (by decide) (fun c_1 => ?_) (fun c_1 => ?_)
        · have h := h.1 c_1
          exact EX_2_112  S_2  H locs _ h hP hD hS hN (lv_sub hl [] rfl)
        · have h := h.2 c_1
          refine lv_iload_n hx hb dX9_assume_8 rfl (lv_at hl 2 rfl) ?_
          refine lv_iconst (v := 3) hx hb dX9_assume_9 (by decide) ?_
          refine lv_icmp_ge (tgt := 17) hx hb dX9_assume_10 (by decide) (fun c_2 => ?_) (fun c_2 => ?_)
          · have h := h.1 c_2
            refine lv_iconst (v := 0) hx hb dX9_assume_17 (by decide) ?_
            refine lv_istore_n (lv' := [(3, .int 0), (0, .ref (q 15 0)), (1, .ref (q 24 y2_1)), (2, .int x2_2)]) hx hb dX9_assume_18 rfl hl (by decide) rfl (fun ls hl => ?_)
            refine lv_iload_n hx hb dX9_assume_19 rfl (lv_at hl 0 rfl) ?_
            refine lv_if_eq (tgt := 27) hx hb dX9_assume_20 (by decide) (fun _ => ?_) (fun c => absurd (by decide) c)
            refine lv_iload_n hx hb dX9_assume_27 rfl (lv_at hl 3 rfl) ?_
            refine lv_iconst (v := 3) hx hb dX9_assume_28 (by decide) ?_
            refine lv_isub hx hb dX9_assume_29 ?_
            refine lv_istore (lv' := [(4, .int (x2_2 - 3)), (3, .int 0), (0, .ref (q 15 0)), (1, .ref (q 24 y2_1)), (2, .int x2_2)]) hx hb dX9_assume_30 hl (by decide) rfl (fun ls hl => ?_)
            refine lv_aload_n hx hb dX9_assume_32 rfl (lv_at hl 2 rfl) ?_
            obtain ⟨p_3, hp_3⟩ := cget_15 cI cZ cP cF q S_2
            have hi_3 : cin S_2 15 0 := Or.inl ⟨by decide, rfl⟩
            refine va_get (D := D) (ci := 9) (v := .ref (q 19 0)) (C := RX9) (T := TX9) (N := 5) hx hb hts (fun _ h => List.mem_cons_of_mem _ (List.mem_append_left _ (List.mem_append_left _ (List.mem_append_right _ h)))) hown hK hP p_3 hp_3 rfl 4 (by decide) (hts (.fieldLink RX9 22 "TemplateForge$Smith" "assumed" "[Z") (List.mem_of_getElem? (i := 1) rfl)) (fun _ h9 => h9) rfl dX9_assume_33 ?_
            refine lv_iload_n hx hb dX9_assume_36 rfl (lv_at hl 4 rfl) ?_
            refine lv_iload_n hx hb dX9_assume_37 rfl (lv_at hl 1 rfl) ?_
            refine lv_if_eq (tgt := 49) hx hb dX9_assume_38 (by decide) (fun _ => ?_) (fun c => absurd (by decide) c)
            refine lv_aload_n hx hb dX9_assume_49 rfl (lv_at hl 3 rfl) ?_
            have hi_4 := h.1
            have h := h.2
            obtain ⟨p_4, hp_4⟩ := cget_24 cI cZ cP cF q S_2 hi_4
            refine va_get (D := D) (ci := 8) (v := .ref (q 28 y2_1)) (C := RX8) (T := TX8) (N := 10) hx hb hts (fun _ h => List.mem_cons_of_mem _ (List.mem_append_left _ (List.mem_append_right _ h))) hown hK hP p_4 hp_4 rfl 3 (by decide) (hts (.fieldLink RX9 41 "TemplateForge$Program" "heat" "LTemplateForge$Heat;") (List.mem_of_getElem? (i := 2) rfl)) (fun _ h9 => h9) rfl dX9_assume_50 ?_
            refine lv_iload_n hx hb dX9_assume_53 rfl (lv_at hl 4 rfl) ?_
            have hi_5 := h.1
            have h := h.2
            obtain ⟨p_5, hp_5⟩ := cget_28 cI cZ cP cF q S_2 hi_5
            refine vp_callSi (va_Run.run (va_runV (As := [.int x2_2]) (rest := [.int x2_2, .ref (q 19 0)]) ⟨hx, hb, hml, hown, hts⟩ (zd_X5_wasAlways l D cI cZ cP cF q S_2 y2_1 x2_2  _ h) (cwV 1 hts zg_zd_X9_assume_zd_X5_wasAlways_105 rfl rfl rfl (by decide +kernel) ⟨Nat.le_of_ble_eq_true rfl, Nat.le_of_ble_eq_true rfl⟩) ⟨zCR, va_recv hK hP (ci := 5) (q0 := p_5) rfl hp_5, fun U hU hW => ⟨rfl, by rw [hU]; exact hP, hE.warm hW⟩⟩ rfl rfl hl.1 rfl (lv_room (Nat.le_of_ble_eq_true rfl)) dX9_assume_54 ⟨Nat.le_of_ble_eq_true rfl, Nat.le_of_ble_eq_true rfl⟩)) (fun r6 h => ?_)
            refine lv_if_eq (tgt := 104) hx hb dX9_assume_57 (by decide) (fun c_7 => ?_) (fun c_7 => ?_)
            · have h := h.1 c_7
              refine lv_iconst (v := 0) hx hb dX9_assume_104 (by decide) ?_
              obtain ⟨p_8, hp_8⟩ := cget_19 cI cZ cP cF q S_2
              have hi_8 : cin S_2 19 0 := Or.inl ⟨by decide, rfl⟩
              have hin_8 := h.1
              have h := h.2
              have hD0_8 := hD
              refine va_zast hx hb hK hP hD hS p_8 1 hp_8 rfl hin_8 dX9_assume_105 (fun H locs hP hD hS => ?_)
              obtain ⟨S9, eS9⟩ : ∃ z, z = cs S_2 190 0 (upd (cv S_2 190 0) (x2_2 : Int32).toNatClampNeg (vp_nar .boolean 0)) := ⟨_, rfl⟩
              have hP : va_P D vwCl (cW cI cZ cP cF q S9) H := by rw [eS9, ← cW_put (k := 190) (κ := 19) (i := 0) (g := (upd (cv S_2 190 0) (x2_2 : Int32).toNatClampNeg (vp_nar .boolean 0))) rfl hD0_8 hp_8 hi_8, cput_190]; exact hP
              have hD : va_D A (cW cI cZ cP cF q S9) := by rw [eS9, ← cW_put (k := 190) (κ := 19) (i := 0) (g := (upd (cv S_2 190 0) (x2_2 : Int32).toNatClampNeg (vp_nar .boolean 0))) rfl hD0_8 hp_8 hi_8, cput_190]; exact hD
              have hN : S9.2 = S.2 := by rw [eS9]; exact hN
              have h := h S9 eS9
              refine lv_iinc (v := x2_2 + 1) (lv' := [(2, .int (x2_2 + 1)), (4, .int (x2_2 - 3)), (3, .int 0), (0, .ref (q 15 0)), (1, .ref (q 24 y2_1))]) hx hb dX9_assume_106 hl (k := 4) rfl rfl (by decide) rfl (fun ls hl => ?_)
              refine lv_goto (tgt := 2) hx hb dX9_assume_109 (by decide) ?_
              exact ih_2  S9 y2_1 (x2_2 + 1) H locs _ h hP hD hS hN (lv_sub hl [3, 4, 0] rfl)
            · have h := h.2 c_7
              refine lv_aload_n hx hb dX9_assume_60 rfl (lv_at hl 2 rfl) ?_
              refine lv_aload_n hx hb dX9_assume_61 rfl (lv_at hl 3 rfl) ?_
              refine lv_iload_n hx hb dX9_assume_62 rfl (lv_at hl 1 rfl) ?_
              refine lv_if_eq (tgt := 70) hx hb dX9_assume_63 (by decide) (fun _ => ?_) (fun c => absurd (by decide) c)
              refine lv_bipush (v := 13) hx hb dX9_assume_70 (by decide) ?_
              refine lv_iload hx hb dX9_assume_72 (lv_at hl 0 rfl) ?_
              obtain ⟨p_10, hp_10⟩ := cget_15 cI cZ cP cF q S_2
              have hi_10 : cin S_2 15 0 := Or.inl ⟨by decide, rfl⟩
              refine vp_callSi (va_Run.run (va_runV (As := [.ref (q 24 y2_1), .int 13, .int (x2_2 - 3)]) (rest := [.int x2_2, .ref (q 19 0)]) ⟨hx, hb, hml, hown, hts⟩ (zd_X9_uses l D cI cZ cP cF q S_2 y2_1 13 (x2_2 - 3)  _ h) (cwV 3 hts zg_zd_X9_assume_zd_X9_uses_108 rfl rfl rfl (by decide +kernel) ⟨Nat.le_of_ble_eq_true rfl, Nat.le_of_ble_eq_true rfl⟩) ⟨zCR, va_recv hK hP (ci := 9) (q0 := p_10) rfl hp_10, fun U hU hW => ⟨rfl, by rw [hU]; exact hP, hE.warm hW⟩⟩ rfl rfl hl.1 rfl (lv_room (Nat.le_of_ble_eq_true rfl)) dX9_assume_74 ⟨Nat.le_of_ble_eq_true rfl, Nat.le_of_ble_eq_true rfl⟩)) (fun r11 h => ?_)
              refine lv_if_eq (tgt := 104) hx hb dX9_assume_77 (by decide) (fun c_12 => ?_) (fun c_12 => ?_)
              · have h := h.1 c_12
                refine lv_iconst (v := 0) hx hb dX9_assume_104 (by decide) ?_
                obtain ⟨p_13, hp_13⟩ := cget_19 cI cZ cP cF q S_2
                have hi_13 : cin S_2 19 0 := Or.inl ⟨by decide, rfl⟩
                have hin_13 := h.1
                have h := h.2
                have hD0_13 := hD
                refine va_zast hx hb hK hP hD hS p_13 1 hp_13 rfl hin_13 dX9_assume_105 (fun H locs hP hD hS => ?_)
                obtain ⟨S14, eS14⟩ : ∃ z, z = cs S_2 190 0 (upd (cv S_2 190 0) (x2_2 : Int32).toNatClampNeg (vp_nar .boolean 0)) := ⟨_, rfl⟩
                have hP : va_P D vwCl (cW cI cZ cP cF q S14) H := by rw [eS14, ← cW_put (k := 190) (κ := 19) (i := 0) (g := (upd (cv S_2 190 0) (x2_2 : Int32).toNatClampNeg (vp_nar .boolean 0))) rfl hD0_13 hp_13 hi_13, cput_190]; exact hP
                have hD : va_D A (cW cI cZ cP cF q S14) := by rw [eS14, ← cW_put (k := 190) (κ := 19) (i := 0) (g := (upd (cv S_2 190 0) (x2_2 : Int32).toNatClampNeg (vp_nar .boolean 0))) rfl hD0_13 hp_13 hi_13, cput_190]; exact hD
                have hN : S14.2 = S.2 := by rw [eS14]; exact hN
                have h := h S14 eS14
                refine lv_iinc (v := x2_2 + 1) (lv' := [(2, .int (x2_2 + 1)), (4, .int (x2_2 - 3)), (3, .int 0), (0, .ref (q 15 0)), (1, .ref (q 24 y2_1))]) hx hb dX9_assume_106 hl (k := 4) rfl rfl (by decide) rfl (fun ls hl => ?_)
                refine lv_goto (tgt := 2) hx hb dX9_assume_109 (by decide) ?_
                exact ih_2  S14 y2_1 (x2_2 + 1) H locs _ h hP hD hS hN (lv_sub hl [3, 4, 0] rfl)
              · have h := h.2 c_12
                refine lv_aload_n hx hb dX9_assume_80 rfl (lv_at hl 2 rfl) ?_
                refine lv_aload_n hx hb dX9_assume_81 rfl (lv_at hl 3 rfl) ?_
                refine lv_iload_n hx hb dX9_assume_82 rfl (lv_at hl 1 rfl) ?_
                refine lv_if_eq (tgt := 90) hx hb dX9_assume_83 (by decide) (fun _ => ?_) (fun c => absurd (by decide) c)
                refine lv_bipush (v := 14) hx hb dX9_assume_90 (by decide) ?_
                refine lv_iload hx hb dX9_assume_92 (lv_at hl 0 rfl) ?_
                obtain ⟨p_15, hp_15⟩ := cget_15 cI cZ cP cF q S_2
                have hi_15 : cin S_2 15 0 := Or.inl ⟨by decide, rfl⟩
                refine vp_callSi (va_Run.run (va_runV (As := [.ref (q 24 y2_1), .int 14, .int (x2_2 - 3)]) (rest := [.int x2_2, .ref (q 19 0)]) ⟨hx, hb, hml, hown, hts⟩ (zd_X9_uses l D cI cZ cP cF q S_2 y2_1 14 (x2_2 - 3)  _ h) (cwV 3 hts zg_zd_X9_assume_zd_X9_uses_108 rfl rfl rfl (by decide +kernel) ⟨Nat.le_of_ble_eq_true rfl, Nat.le_of_ble_eq_true rfl⟩) ⟨zCR, va_recv hK hP (ci := 9) (q0 := p_15) rfl hp_15, fun U hU hW => ⟨rfl, by rw [hU]; exact hP, hE.warm hW⟩⟩ rfl rfl hl.1 rfl (lv_room (Nat.le_of_ble_eq_true rfl)) dX9_assume_94 ⟨Nat.le_of_ble_eq_true rfl, Nat.le_of_ble_eq_true rfl⟩)) (fun r16 h => ?_)
                refine lv_if_ne (tgt := 104) hx hb dX9_assume_97 (by decide) (fun c_17 => ?_) (fun c_17 => ?_)
                · have h := h.1 c_17
                  refine lv_iconst (v := 0) hx hb dX9_assume_104 (by decide) ?_
                  obtain ⟨p_18, hp_18⟩ := cget_19 cI cZ cP cF q S_2
                  have hi_18 : cin S_2 19 0 := Or.inl ⟨by decide, rfl⟩
                  have hin_18 := h.1
                  have h := h.2
                  have hD0_18 := hD
                  refine va_zast hx hb hK hP hD hS p_18 1 hp_18 rfl hin_18 dX9_assume_105 (fun H locs hP hD hS => ?_)
                  obtain ⟨S19, eS19⟩ : ∃ z, z = cs S_2 190 0 (upd (cv S_2 190 0) (x2_2 : Int32).toNatClampNeg (vp_nar .boolean 0)) := ⟨_, rfl⟩
                  have hP : va_P D vwCl (cW cI cZ cP cF q S19) H := by rw [eS19, ← cW_put (k := 190) (κ := 19) (i := 0) (g := (upd (cv S_2 190 0) (x2_2 : Int32).toNatClampNeg (vp_nar .boolean 0))) rfl hD0_18 hp_18 hi_18, cput_190]; exact hP
                  have hD : va_D A (cW cI cZ cP cF q S19) := by rw [eS19, ← cW_put (k := 190) (κ := 19) (i := 0) (g := (upd (cv S_2 190 0) (x2_2 : Int32).toNatClampNeg (vp_nar .boolean 0))) rfl hD0_18 hp_18 hi_18, cput_190]; exact hD
                  have hN : S19.2 = S.2 := by rw [eS19]; exact hN
                  have h := h S19 eS19
                  refine lv_iinc (v := x2_2 + 1) (lv' := [(2, .int (x2_2 + 1)), (4, .int (x2_2 - 3)), (3, .int 0), (0, .ref (q 15 0)), (1, .ref (q 24 y2_1))]) hx hb dX9_assume_106 hl (k := 4) rfl rfl (by decide) rfl (fun ls hl => ?_)
                  refine lv_goto (tgt := 2) hx hb dX9_assume_109 (by decide) ?_
                  exact ih_2  S19 y2_1 (x2_2 + 1) H locs _ h hP hD hS hN (lv_sub hl [3, 4, 0] rfl)
                · have h := h.2 c_17
                  refine lv_iconst (v := 1) hx hb dX9_assume_100 (by decide) ?_
                  refine lv_goto (tgt := 105) hx hb dX9_assume_101 (by decide) ?_
                  obtain ⟨p_20, hp_20⟩ := cget_19 cI cZ cP cF q S_2
                  have hi_20 : cin S_2 19 0 := Or.inl ⟨by decide, rfl⟩
                  have hin_20 := h.1
                  have h := h.2
                  have hD0_20 := hD
                  refine va_zast hx hb hK hP hD hS p_20 1 hp_20 rfl hin_20 dX9_assume_105 (fun H locs hP hD hS => ?_)
                  obtain ⟨S21, eS21⟩ : ∃ z, z = cs S_2 190 0 (upd (cv S_2 190 0) (x2_2 : Int32).toNatClampNeg (vp_nar .boolean 1)) := ⟨_, rfl⟩
                  have hP : va_P D vwCl (cW cI cZ cP cF q S21) H := by rw [eS21, ← cW_put (k := 190) (κ := 19) (i := 0) (g := (upd (cv S_2 190 0) (x2_2 : Int32).toNatClampNeg (vp_nar .boolean 1))) rfl hD0_20 hp_20 hi_20, cput_190]; exact hP
                  have hD : va_D A (cW cI cZ cP cF q S21) := by rw [eS21, ← cW_put (k := 190) (κ := 19) (i := 0) (g := (upd (cv S_2 190 0) (x2_2 : Int32).toNatClampNeg (vp_nar .boolean 1))) rfl hD0_20 hp_20 hi_20, cput_190]; exact hD
                  have hN : S21.2 = S.2 := by rw [eS21]; exact hN
                  have h := h S21 eS21
                  refine lv_iinc (v := x2_2 + 1) (lv' := [(2, .int (x2_2 + 1)), (4, .int (x2_2 - 3)), (3, .int 0), (0, .ref (q 15 0)), (1, .ref (q 24 y2_1))]) hx hb dX9_assume_106 hl (k := 4) rfl rfl (by decide) rfl (fun ls hl => ?_)
                  refine lv_goto (tgt := 2) hx hb dX9_assume_109 (by decide) ?_
                  exact ih_2  S21 y2_1 (x2_2 + 1) H locs _ h hP hD hS hN (lv_sub hl [3, 4, 0] rfl)
          · have h := h.2 c_2
            refine lv_iconst (v := 1) hx hb dX9_assume_13 (by decide) ?_
            refine lv_goto (tgt := 18) hx hb dX9_assume_14 (by decide) ?_
            refine lv_istore_n (lv' := [(3, .int 1), (0, .ref (q 15 0)), (1, .ref (q 24 y2_1)), (2, .int x2_2)]) hx hb dX9_assume_18 rfl hl (by decide) rfl (fun ls hl => ?_)
            refine lv_iload_n hx hb dX9_assume_19 rfl (lv_at hl 0 rfl) ?_
            refine lv_if_eq (tgt := 27) hx hb dX9_assume_20 (by decide) (fun c => absurd c (by decide)) (fun _ => ?_)
            refine lv_iload_n hx hb dX9_assume_23 rfl (lv_at hl 3 rfl) ?_
            refine lv_goto (tgt := 30) hx hb dX9_assume_24 (by decide) ?_
            refine lv_istore (lv' := [(4, .int x2_2), (3, .int 1), (0, .ref (q 15 0)), (1, .ref (q 24 y2_1)), (2, .int x2_2)]) hx hb dX9_assume_30 hl (by decide) rfl (fun ls hl => ?_)
            refine lv_aload_n hx hb dX9_assume_32 rfl (lv_at hl 2 rfl) ?_
            obtain ⟨p_22, hp_22⟩ := cget_15 cI cZ cP cF q S_2
            have hi_22 : cin S_2 15 0 := Or.inl ⟨by decide, rfl⟩
            refine va_get (D := D) (ci := 9) (v := .ref (q 19 0)) (C := RX9) (T := TX9) (N := 5) hx hb hts (fun _ h => List.mem_cons_of_mem _ (List.mem_append_left _ (List.mem_append_left _ (List.mem_append_right _ h)))) hown hK hP p_22 hp_22 rfl 4 (by decide) (hts (.fieldLink RX9 22 "TemplateForge$Smith" "assumed" "[Z") (List.mem_of_getElem? (i := 1) rfl)) (fun _ h9 => h9) rfl dX9_assume_33 ?_
            refine lv_iload_n hx hb dX9_assume_36 rfl (lv_at hl 4 rfl) ?_
            refine lv_iload_n hx hb dX9_assume_37 rfl (lv_at hl 1 rfl) ?_
            refine lv_if_eq (tgt := 49) hx hb dX9_assume_38 (by decide) (fun c => absurd c (by decide)) (fun _ => ?_)
            refine lv_iload_n hx hb dX9_assume_41 rfl (lv_at hl 4 rfl) ?_
            refine lv_aload_n hx hb dX9_assume_42 rfl (lv_at hl 3 rfl) ?_
            have hi_23 := h.1
            have h := h.2
            obtain ⟨p_23, hp_23⟩ := cget_24 cI cZ cP cF q S_2 hi_23
            refine va_get (D := D) (ci := 8) (v := .int (cv S_2 241 y2_1 0)) (C := RX8) (T := TX8) (N := 10) hx hb hts (fun _ h => List.mem_cons_of_mem _ (List.mem_append_left _ (List.mem_append_right _ h))) hown hK hP p_23 hp_23 rfl 1 (by decide) (hts (.fieldLink RX9 102 "TemplateForge$Program" "args" "I") (List.mem_of_getElem? (i := 38) rfl)) (fun _ h9 => h9) rfl dX9_assume_43 ?_
            refine lv_icmp_ge (tgt := 104) hx hb dX9_assume_46 (by decide) (fun c_24 => ?_) (fun c_24 => ?_)
            · have h := h.1 c_24
              refine lv_iconst (v := 0) hx hb dX9_assume_104 (by decide) ?_
              obtain ⟨p_25, hp_25⟩ := cget_19 cI cZ cP cF q S_2
              have hi_25 : cin S_2 19 0 := Or.inl ⟨by decide, rfl⟩
              have hin_25 := h.1
              have h := h.2
              have hD0_25 := hD
              refine va_zast hx hb hK hP hD hS p_25 1 hp_25 rfl hin_25 dX9_assume_105 (fun H locs hP hD hS => ?_)
              obtain ⟨S26, eS26⟩ : ∃ z, z = cs S_2 190 0 (upd (cv S_2 190 0) (x2_2 : Int32).toNatClampNeg (vp_nar .boolean 0)) := ⟨_, rfl⟩
              have hP : va_P D vwCl (cW cI cZ cP cF q S26) H := by rw [eS26, ← cW_put (k := 190) (κ := 19) (i := 0) (g := (upd (cv S_2 190 0) (x2_2 : Int32).toNatClampNeg (vp_nar .boolean 0))) rfl hD0_25 hp_25 hi_25, cput_190]; exact hP
              have hD : va_D A (cW cI cZ cP cF q S26) := by rw [eS26, ← cW_put (k := 190) (κ := 19) (i := 0) (g := (upd (cv S_2 190 0) (x2_2 : Int32).toNatClampNeg (vp_nar .boolean 0))) rfl hD0_25 hp_25 hi_25, cput_190]; exact hD
              have hN : S26.2 = S.2 := by rw [eS26]; exact hN
              have h := h S26 eS26
              refine lv_iinc (v := x2_2 + 1) (lv' := [(2, .int (x2_2 + 1)), (4, .int x2_2), (3, .int 1), (0, .ref (q 15 0)), (1, .ref (q 24 y2_1))]) hx hb dX9_assume_106 hl (k := 4) rfl rfl (by decide) rfl (fun ls hl => ?_)
              refine lv_goto (tgt := 2) hx hb dX9_assume_109 (by decide) ?_
              exact ih_2  S26 y2_1 (x2_2 + 1) H locs _ h hP hD hS hN (lv_sub hl [3, 4, 0] rfl)
            · have h := h.2 c_24
              refine lv_aload_n hx hb dX9_assume_49 rfl (lv_at hl 3 rfl) ?_
              have hi_27 := h.1
              have h := h.2
              obtain ⟨p_27, hp_27⟩ := cget_24 cI cZ cP cF q S_2 hi_27
              refine va_get (D := D) (ci := 8) (v := .ref (q 28 y2_1)) (C := RX8) (T := TX8) (N := 10) hx hb hts (fun _ h => List.mem_cons_of_mem _ (List.mem_append_left _ (List.mem_append_right _ h))) hown hK hP p_27 hp_27 rfl 3 (by decide) (hts (.fieldLink RX9 41 "TemplateForge$Program" "heat" "LTemplateForge$Heat;") (List.mem_of_getElem? (i := 2) rfl)) (fun _ h9 => h9) rfl dX9_assume_50 ?_
              refine lv_iload_n hx hb dX9_assume_53 rfl (lv_at hl 4 rfl) ?_
              have hi_28 := h.1
              have h := h.2
              obtain ⟨p_28, hp_28⟩ := cget_28 cI cZ cP cF q S_2 hi_28
              refine vp_callSi (va_Run.run (va_runV (As := [.int x2_2]) (rest := [.int x2_2, .ref (q 19 0)]) ⟨hx, hb, hml, hown, hts⟩ (zd_X5_wasAlways l D cI cZ cP cF q S_2 y2_1 x2_2  _ h) (cwV 1 hts zg_zd_X9_assume_zd_X5_wasAlways_105 rfl rfl rfl (by decide +kernel) ⟨Nat.le_of_ble_eq_true rfl, Nat.le_of_ble_eq_true rfl⟩) ⟨zCR, va_recv hK hP (ci := 5) (q0 := p_28) rfl hp_28, fun U hU hW => ⟨rfl, by rw [hU]; exact hP, hE.warm hW⟩⟩ rfl rfl hl.1 rfl (lv_room (Nat.le_of_ble_eq_true rfl)) dX9_assume_54 ⟨Nat.le_of_ble_eq_true rfl, Nat.le_of_ble_eq_true rfl⟩)) (fun r29 h => ?_)
              refine lv_if_eq (tgt := 104) hx hb dX9_assume_57 (by decide) (fun c_30 => ?_) (fun c_30 => ?_)
              · have h := h.1 c_30
                refine lv_iconst (v := 0) hx hb dX9_assume_104 (by decide) ?_
                obtain ⟨p_31, hp_31⟩ := cget_19 cI cZ cP cF q S_2
                have hi_31 : cin S_2 19 0 := Or.inl ⟨by decide, rfl⟩
                have hin_31 := h.1
                have h := h.2
                have hD0_31 := hD
                refine va_zast hx hb hK hP hD hS p_31 1 hp_31 rfl hin_31 dX9_assume_105 (fun H locs hP hD hS => ?_)
                obtain ⟨S32, eS32⟩ : ∃ z, z = cs S_2 190 0 (upd (cv S_2 190 0) (x2_2 : Int32).toNatClampNeg (vp_nar .boolean 0)) := ⟨_, rfl⟩
                have hP : va_P D vwCl (cW cI cZ cP cF q S32) H := by rw [eS32, ← cW_put (k := 190) (κ := 19) (i := 0) (g := (upd (cv S_2 190 0) (x2_2 : Int32).toNatClampNeg (vp_nar .boolean 0))) rfl hD0_31 hp_31 hi_31, cput_190]; exact hP
                have hD : va_D A (cW cI cZ cP cF q S32) := by rw [eS32, ← cW_put (k := 190) (κ := 19) (i := 0) (g := (upd (cv S_2 190 0) (x2_2 : Int32).toNatClampNeg (vp_nar .boolean 0))) rfl hD0_31 hp_31 hi_31, cput_190]; exact hD
                have hN : S32.2 = S.2 := by rw [eS32]; exact hN
                have h := h S32 eS32
                refine lv_iinc (v := x2_2 + 1) (lv' := [(2, .int (x2_2 + 1)), (4, .int x2_2), (3, .int 1), (0, .ref (q 15 0)), (1, .ref (q 24 y2_1))]) hx hb dX9_assume_106 hl (k := 4) rfl rfl (by decide) rfl (fun ls hl => ?_)
                refine lv_goto (tgt := 2) hx hb dX9_assume_109 (by decide) ?_
                exact ih_2  S32 y2_1 (x2_2 + 1) H locs _ h hP hD hS hN (lv_sub hl [3, 4, 0] rfl)
              · have h := h.2 c_30
                refine lv_aload_n hx hb dX9_assume_60 rfl (lv_at hl 2 rfl) ?_
                refine lv_aload_n hx hb dX9_assume_61 rfl (lv_at hl 3 rfl) ?_
                refine lv_iload_n hx hb dX9_assume_62 rfl (lv_at hl 1 rfl) ?_
                refine lv_if_eq (tgt := 70) hx hb dX9_assume_63 (by decide) (fun c => absurd c (by decide)) (fun _ => ?_)
                refine lv_iconst (v := 1) hx hb dX9_assume_66 (by decide) ?_
                refine lv_goto (tgt := 72) hx hb dX9_assume_67 (by decide) ?_
                refine lv_iload hx hb dX9_assume_72 (lv_at hl 0 rfl) ?_
                obtain ⟨p_33, hp_33⟩ := cget_15 cI cZ cP cF q S_2
                have hi_33 : cin S_2 15 0 := Or.inl ⟨by decide, rfl⟩
                refine vp_callSi (va_Run.run (va_runV (As := [.ref (q 24 y2_1), .int 1, .int x2_2]) (rest := [.int x2_2, .ref (q 19 0)]) ⟨hx, hb, hml, hown, hts⟩ (zd_X9_uses l D cI cZ cP cF q S_2 y2_1 1 x2_2  _ h) (cwV 3 hts zg_zd_X9_assume_zd_X9_uses_108 rfl rfl rfl (by decide +kernel) ⟨Nat.le_of_ble_eq_true rfl, Nat.le_of_ble_eq_true rfl⟩) ⟨zCR, va_recv hK hP (ci := 9) (q0 := p_33) rfl hp_33, fun U hU hW => ⟨rfl, by rw [hU]; exact hP, hE.warm hW⟩⟩ rfl rfl hl.1 rfl (lv_room (Nat.le_of_ble_eq_true rfl)) dX9_assume_74 ⟨Nat.le_of_ble_eq_true rfl, Nat.le_of_ble_eq_true rfl⟩)) (fun r34 h => ?_)
                refine lv_if_eq (tgt := 104) hx hb dX9_assume_77 (by decide) (fun c_35 => ?_) (fun c_35 => ?_)
                · have h := h.1 c_35
                  refine lv_iconst (v := 0) hx hb dX9_assume_104 (by decide) ?_
                  obtain ⟨p_36, hp_36⟩ := cget_19 cI cZ cP cF q S_2
                  have hi_36 : cin S_2 19 0 := Or.inl ⟨by decide, rfl⟩
                  have hin_36 := h.1
                  have h := h.2
                  have hD0_36 := hD
                  refine va_zast hx hb hK hP hD hS p_36 1 hp_36 rfl hin_36 dX9_assume_105 (fun H locs hP hD hS => ?_)
                  obtain ⟨S37, eS37⟩ : ∃ z, z = cs S_2 190 0 (upd (cv S_2 190 0) (x2_2 : Int32).toNatClampNeg (vp_nar .boolean 0)) := ⟨_, rfl⟩
                  have hP : va_P D vwCl (cW cI cZ cP cF q S37) H := by rw [eS37, ← cW_put (k := 190) (κ := 19) (i := 0) (g := (upd (cv S_2 190 0) (x2_2 : Int32).toNatClampNeg (vp_nar .boolean 0))) rfl hD0_36 hp_36 hi_36, cput_190]; exact hP
                  have hD : va_D A (cW cI cZ cP cF q S37) := by rw [eS37, ← cW_put (k := 190) (κ := 19) (i := 0) (g := (upd (cv S_2 190 0) (x2_2 : Int32).toNatClampNeg (vp_nar .boolean 0))) rfl hD0_36 hp_36 hi_36, cput_190]; exact hD
                  have hN : S37.2 = S.2 := by rw [eS37]; exact hN
                  have h := h S37 eS37
                  refine lv_iinc (v := x2_2 + 1) (lv' := [(2, .int (x2_2 + 1)), (4, .int x2_2), (3, .int 1), (0, .ref (q 15 0)), (1, .ref (q 24 y2_1))]) hx hb dX9_assume_106 hl (k := 4) rfl rfl (by decide) rfl (fun ls hl => ?_)
                  refine lv_goto (tgt := 2) hx hb dX9_assume_109 (by decide) ?_
                  exact ih_2  S37 y2_1 (x2_2 + 1) H locs _ h hP hD hS hN (lv_sub hl [3, 4, 0] rfl)
                · have h := h.2 c_35
                  refine lv_aload_n hx hb dX9_assume_80 rfl (lv_at hl 2 rfl) ?_
                  refine lv_aload_n hx hb dX9_assume_81 rfl (lv_at hl 3 rfl) ?_
                  refine lv_iload_n hx hb dX9_assume_82 rfl (lv_at hl 1 rfl) ?_
                  refine lv_if_eq (tgt := 90) hx hb dX9_assume_83 (by decide) (fun c => absurd c (by decide)) (fun _ => ?_)
                  refine lv_iconst (v := 2) hx hb dX9_assume_86 (by decide) ?_
                  refine lv_goto (tgt := 92) hx hb dX9_assume_87 (by decide) ?_
                  refine lv_iload hx hb dX9_assume_92 (lv_at hl 0 rfl) ?_
                  obtain ⟨p_38, hp_38⟩ := cget_15 cI cZ cP cF q S_2
                  have hi_38 : cin S_2 15 0 := Or.inl ⟨by decide, rfl⟩
                  refine vp_callSi (va_Run.run (va_runV (As := [.ref (q 24 y2_1), .int 2, .int x2_2]) (rest := [.int x2_2, .ref (q 19 0)]) ⟨hx, hb, hml, hown, hts⟩ (zd_X9_uses l D cI cZ cP cF q S_2 y2_1 2 x2_2  _ h) (cwV 3 hts zg_zd_X9_assume_zd_X9_uses_108 rfl rfl rfl (by decide +kernel) ⟨Nat.le_of_ble_eq_true rfl, Nat.le_of_ble_eq_true rfl⟩) ⟨zCR, va_recv hK hP (ci := 9) (q0 := p_38) rfl hp_38, fun U hU hW => ⟨rfl, by rw [hU]; exact hP, hE.warm hW⟩⟩ rfl rfl hl.1 rfl (lv_room (Nat.le_of_ble_eq_true rfl)) dX9_assume_94 ⟨Nat.le_of_ble_eq_true rfl, Nat.le_of_ble_eq_true rfl⟩)) (fun r39 h => ?_)
                  refine lv_if_ne (tgt := 104) hx hb dX9_assume_97 (by decide) (fun c_40 => ?_) (fun c_40 => ?_)
                  · have h := h.1 c_40
                    refine lv_iconst (v := 0) hx hb dX9_assume_104 (by decide) ?_
                    obtain ⟨p_41, hp_41⟩ := cget_19 cI cZ cP cF q S_2
                    have hi_41 : cin S_2 19 0 := Or.inl ⟨by decide, rfl⟩
                    have hin_41 := h.1
                    have h := h.2
                    have hD0_41 := hD
                    refine va_zast hx hb hK hP hD hS p_41 1 hp_41 rfl hin_41 dX9_assume_105 (fun H locs hP hD hS => ?_)
                    obtain ⟨S42, eS42⟩ : ∃ z, z = cs S_2 190 0 (upd (cv S_2 190 0) (x2_2 : Int32).toNatClampNeg (vp_nar .boolean 0)) := ⟨_, rfl⟩
                    have hP : va_P D vwCl (cW cI cZ cP cF q S42) H := by rw [eS42, ← cW_put (k := 190) (κ := 19) (i := 0) (g := (upd (cv S_2 190 0) (x2_2 : Int32).toNatClampNeg (vp_nar .boolean 0))) rfl hD0_41 hp_41 hi_41, cput_190]; exact hP
                    have hD : va_D A (cW cI cZ cP cF q S42) := by rw [eS42, ← cW_put (k := 190) (κ := 19) (i := 0) (g := (upd (cv S_2 190 0) (x2_2 : Int32).toNatClampNeg (vp_nar .boolean 0))) rfl hD0_41 hp_41 hi_41, cput_190]; exact hD
                    have hN : S42.2 = S.2 := by rw [eS42]; exact hN
                    have h := h S42 eS42
                    refine lv_iinc (v := x2_2 + 1) (lv' := [(2, .int (x2_2 + 1)), (4, .int x2_2), (3, .int 1), (0, .ref (q 15 0)), (1, .ref (q 24 y2_1))]) hx hb dX9_assume_106 hl (k := 4) rfl rfl (by decide) rfl (fun ls hl => ?_)
                    refine lv_goto (tgt := 2) hx hb dX9_assume_109 (by decide) ?_
                    exact ih_2  S42 y2_1 (x2_2 + 1) H locs _ h hP hD hS hN (lv_sub hl [3, 4, 0] rfl)
                  · have h := h.2 c_40
                    refine lv_iconst (v := 1) hx hb dX9_assume_100 (by decide) ?_
                    refine lv_goto (tgt := 105) hx hb dX9_assume_101 (by decide) ?_
                    obtain ⟨p_43, hp_43⟩ := cget_19 cI cZ cP cF q S_2
                    have hi_43 : cin S_2 19 0 := Or.inl ⟨by decide, rfl⟩
                    have hin_43 := h.1
                    have h := h.2
                    have hD0_43 := hD
                    refine va_zast hx hb hK hP hD hS p_43 1 hp_43 rfl hin_43 dX9_assume_105 (fun H locs hP hD hS => ?_)
                    obtain ⟨S44, eS44⟩ : ∃ z, z = cs S_2 190 0 (upd (cv S_2 190 0) (x2_2 : Int32).toNatClampNeg (vp_nar .boolean 1)) := ⟨_, rfl⟩
                    have hP : va_P D vwCl (cW cI cZ cP cF q S44) H := by rw [eS44, ← cW_put (k := 190) (κ := 19) (i := 0) (g := (upd (cv S_2 190 0) (x2_2 : Int32).toNatClampNeg (vp_nar .boolean 1))) rfl hD0_43 hp_43 hi_43, cput_190]; exact hP
                    have hD : va_D A (cW cI cZ cP cF q S44) := by rw [eS44, ← cW_put (k := 190) (κ := 19) (i := 0) (g := (upd (cv S_2 190 0) (x2_2 : Int32).toNatClampNeg (vp_nar .boolean 1))) rfl hD0_43 hp_43 hi_43, cput_190]; exact hD
                    have hN : S44.2 = S.2 := by rw [eS44]; exact hN
                    have h := h S44 eS44
                    refine lv_iinc (v := x2_2 + 1) (lv' := [(2, .int (x2_2 + 1)), (4, .int x2_2), (3, .int 1), (0, .ref (q 15 0)), (1, .ref (q 24 y2_1))]) hx hb dX9_assume_106 hl (k := 4) rfl rfl (by decide) rfl (fun ls hl => ?_)
                    refine lv_goto (tgt := 2) hx hb dX9_assume_109 (by decide) ?_
                    exact ih_2  S44 y2_1 (x2_2 + 1) H locs _ h hP hD hS hN (lv_sub hl [3, 4, 0] rfl)
    obtain ⟨n_2, h⟩ := h
    exact LP_2 n_2 S i1 0 H locs _ h hP hD hS hN (lv_sub hl [1, 2, 0] rfl)
  exact key _ _ hP va_S.rf

def wl_X9_lay_7 (K_63 : CST → Prop) (Post : CST → Prop) : Nat → CST → Int32 → Int32 → Int32 → Prop
  | 0, _, _, _, _ => False
  | n_7 + 1, S_7, x7_2, x7_3, x7_4 => ((x7_2 < x7_4) → ((K_63 S_7 ))) ∧ ((¬ (x7_2 < x7_4)) → (((15 ≤ x7_4) → ((K_63 S_7 ))) ∧ ((¬ (15 ≤ x7_4)) → (vp_in x7_4 15 ∧ (((((cv S_7 160 0 (x7_4 : Int32).toNatClampNeg) : Int32) = 0) → (wl_X9_lay_7 K_63 Post n_7 S_7 x7_2 x7_3 (x7_4 + 1))) ∧ ((¬ (((cv S_7 160 0 (x7_4 : Int32).toNatClampNeg) : Int32) = 0)) → (vp_in x7_4 15 ∧ (wp_X3_add S_7 0 x7_4 (cv S_7 170 0 (x7_4 : Int32).toNatClampNeg) 0 x7_3 (fun S10 => vp_in x7_4 15 ∧ (∀ S13 : CST, S13 = cs S10 160 0 (upd (cv S10 160 0) (x7_4 : Int32).toNatClampNeg (vp_nar .boolean 0)) → (wl_X9_lay_7 K_63 Post n_7 S13 x7_2 x7_3 (x7_4 + 1))))))))))))
def wp_X9_lay (S : CST) (a1 : Int32) (a2 : Int32) (a3 : Int32) (Post : CST → Prop) : Prop :=
  ∃ n_7, wl_X9_lay_7 (fun S_63 => Post S_63) Post n_7 S a2 a3 (if a1 < 0 then 0 else a1)
def zw_zd_X9_lay_w0 : List Cond := [.methodLink RX9 112 Lib.Math.max.name, .static Lib.Math.max.name, .initialized "java/lang/Math", .code Lib.Math.max.name Lib.Math.max.code 2 (some .int), .fieldLink RX9 9 "TemplateForge$Smith" "known" "[Z", .fieldLink RX9 25 "TemplateForge$Smith" "draft" "LTemplateForge$Draft;", .fieldLink RX9 15 "TemplateForge$Smith" "worth" "[I", .code yX3_add cX3_add 7 none, .fieldLink RX3 18 "TemplateForge$Draft" "parts" "I", .fieldLink RX3 9 "TemplateForge$Draft" "cells" "[I", .methodLink RX9 121 yX3_add, .instanceMethod yX3_add, .selects RX3 yX3_add yX3_add, .initialized RX3]
def zw_zd_X9_lay : List Cond := .code yX9_lay cX9_lay 5 none :: ((zw_zd_X9_lay_w0) ++ wsX90 ++ wsX30)
set_option maxRecDepth 100000 in
theorem zg_zd_X9_lay_zd_X3_add_121_a : GoodIn zw_zd_X9_lay [.methodLink RX9 121 yX3_add, .instanceMethod yX3_add, .selects RX3 yX3_add yX3_add, .initialized RX3] := goodIn_r _ [11, 12, 13, 14] rfl (by decide +kernel)
set_option maxRecDepth 100000 in
theorem zg_zd_X9_lay_zd_X3_add_121_c : GoodIn zw_zd_X9_lay [.code yX3_add cX3_add 7 none] := goodIn_r _ [8] rfl (by decide +kernel)
set_option maxRecDepth 100000 in
theorem zg_zd_X9_lay_zd_X3_add_121_0 : GoodIn zw_zd_X9_lay zw_zd_X3_add_w0 := goodIn_r _ [9, 10] rfl (by decide +kernel)
theorem zg_zd_X9_lay_zd_X3_add_121 : GoodIn zw_zd_X9_lay (wsV RX9 121 RX3 yX3_add zw_zd_X3_add) := goodIn_app zg_zd_X9_lay_zd_X3_add_121_a (goodIn_ca (a := (zw_zd_X3_add_w0)) (show GoodIn zw_zd_X9_lay (.code yX3_add cX3_add 7 none :: (zw_zd_X3_add_w0)) from goodIn_app zg_zd_X9_lay_zd_X3_add_121_c (zg_zd_X9_lay_zd_X3_add_121_0)) (fun w h => ⟨(fun _ h => List.mem_cons_of_mem _ (List.mem_append_right _ h)) w h, good_of_word (List.all_eq_true.mp zgw_X3 w h)⟩))
set_option maxHeartbeats 16000000 in
set_option maxRecDepth 100000 in
theorem zd_X9_lay (l : Launch) (D : va_G) (cI cZ cP cF : Nat) (q : Nat → Nat → Nat) (S : CST) (a1 : Int32) (a2 : Int32) (a3 : Int32) (sz : Nat) (Post : CST → Prop) (h : wp_X9_lay S a1 a2 a3 Post) : Met l yX9_lay zw_zd_X9_lay ({ frames := 1, cells := 0, slots := 0, locals := 30 }) (va_Pc [.ref (q 15 0), .int a1, .int a2, .int a3] (fun U => U.heap.size = sz ∧ va_P D vwCl (cW cI cZ cP cF q S) U.heap ∧ zF D cI cZ cP cF U ∧ va_D (fun _ => True) (cW cI cZ cP cF q S))) (va_Qv (fun S' => Post S') (fun (S' : CST) t => va_P D vwCl (cW cI cZ cP cF q S') t.heap ∧ va_D (va_A (cW cI cZ cP cF q S) sz) (cW cI cZ cP cF q S') ∧ S'.2 = S.2) (va_A (cW cI cZ cP cF q S) sz)) 0 0 (va_A (cW cI cZ cP cF q S) sz) := by
  unfold wp_X9_lay at h
  refine Met.ofW (cc := cX9_lay) (maxL := 5) (ret := none) (by decide) rfl ?_
  intro p e s m args below meth c s₁ B hml hv
  obtain ⟨rfl, hsz, hP, hE, hD0⟩ := hv
  have hx := B.exec
  have hb := B.bytes
  have hr := B.returns
  have hts := atoms_spec (ws := zw_zd_X9_lay) B.pre
  have hown : s.vm.findClass RX9 = some m.cls := findClass_of_methodNamed B.named
  have hlocks := B.notSynchronized
  have hK := hE.k
  subst hsz
  have hD := hD0.self (sz := s.heap.size)
  generalize hAe : va_A (cW cI cZ cP cF q S) s.heap.size = A at hD ⊢
  have hA : ∀ q : Nat, s.heap.size ≤ q → A q := fun q h => by rw [← hAe]; exact Or.inr h
  have hN : S.2 = S.2 := rfl
  have hl := lv_entry ([.ref (q 15 0), .int a1, .int a2, .int a3]) (n := 5) (Nat.le_of_ble_eq_true rfl)
  rw [lg_entry_eq]
  generalize (lg_sl ([.ref (q 15 0), .int a1, .int a2, .int a3]) ++ List.replicate (5 - (lg_sl ([.ref (q 15 0), .int a1, .int a2, .int a3])).length) Slot.unset).toArray = ls at hl ⊢
  have hl : lv_has ls 5 [(0, .ref (q 15 0)), (1, .int a1), (2, .int a2), (3, .int a3)] := hl
  have key : ∀ (H : Heap) (locs : List Loc), va_P D vwCl (cW cI cZ cP cF q S) H → va_S A s.heap H locs → W p l e (headSpec zw_zd_X9_lay ({ frames := 1, cells := 0, slots := 0, locals := 30 })).room s m ([.ref (q 15 0), .int a1, .int a2, .int a3] : List Value).toArray below meth c H locs 0 0 (MQ below (va_Qv (fun S' => Post S') (fun (S' : CST) t => va_P D vwCl (cW cI cZ cP cF q S') t.heap ∧ va_D A (cW cI cZ cP cF q S') ∧ S'.2 = S.2) A) ([.ref (q 15 0), .int a1, .int a2, .int a3] : List Value).toArray s 0 0 A) (F0 m 0 ls []) := by
    intro H locs hP hS
    refine lv_iload_n hx hb dX9_lay_0 rfl (lv_at hl 1 rfl) ?_
    refine lv_iconst (v := 0) hx hb dX9_lay_1 (by decide) ?_
    refine va_mmax hx hb (hml.trans hl.1.symm) hown (hts (.methodLink RX9 112 Lib.Math.max.name) (List.mem_of_getElem? (i := 1) rfl)) (hts (.static Lib.Math.max.name) (List.mem_of_getElem? (i := 2) rfl)) (hts (.initialized "java/lang/Math") (List.mem_of_getElem? (i := 3) rfl)) (hts (.code Lib.Math.max.name Lib.Math.max.code 2 (some .int)) (List.mem_of_getElem? (i := 4) rfl)) (Nat.le_of_ble_eq_true rfl) (by exact Nat.le_of_ble_eq_true rfl) (Nat.zero_le _) (Nat.zero_le _) dX9_lay_2 ?_
    refine lv_istore (lv' := [(4, .int (if a1 < 0 then 0 else a1)), (0, .ref (q 15 0)), (1, .int a1), (2, .int a2), (3, .int a3)]) hx hb dX9_lay_5 hl (by decide) rfl (fun ls hl => ?_)
    have EX_7_63 : ∀ (S_63 : CST) (H : Heap) (locs : List Loc) (ls : Array Slot), (Post S_63) → va_P D vwCl (cW cI cZ cP cF q S_63) H → va_D A (cW cI cZ cP cF q S_63) → va_S A s.heap H locs → S_63.2 = S.2 → lv_has ls 5 [] → W p l e (headSpec zw_zd_X9_lay ({ frames := 1, cells := 0, slots := 0, locals := 30 })).room s m ([.ref (q 15 0), .int a1, .int a2, .int a3] : List Value).toArray below meth c H locs 0 0 (MQ below (va_Qv (fun S' => Post S') (fun (S' : CST) t => va_P D vwCl (cW cI cZ cP cF q S') t.heap ∧ va_D A (cW cI cZ cP cF q S') ∧ S'.2 = S.2) A) ([.ref (q 15 0), .int a1, .int a2, .int a3] : List Value).toArray s 0 0 A) (F0 m 63 ls []) := by
      intro S_63  H locs ls h hP hD hS hN hl
      exact W.vret hx hb hr (fun t ht hW => ⟨⟨S_63, rfl, h, by rw [ht]; exact hP, hD, hN⟩, hS.F ht⟩) hS.2.2 dX9_lay_63
    have LP_7 : ∀ (n_7 : Nat), ∀ (S_7 : CST) (x7_2 : Int32) (x7_3 : Int32) (x7_4 : Int32) (H : Heap) (locs : List Loc) (ls : Array Slot), wl_X9_lay_7 (fun S_63 => Post S_63) Post n_7 S_7 x7_2 x7_3 x7_4 → va_P D vwCl (cW cI cZ cP cF q S_7) H → va_D A (cW cI cZ cP cF q S_7) → va_S A s.heap H locs → S_7.2 = S.2 → lv_has ls 5 [(0, .ref (q 15 0)), (2, .int x7_2), (3, .int x7_3), (4, .int x7_4)] → W p l e (headSpec zw_zd_X9_lay ({ frames := 1, cells := 0, slots := 0, locals := 30 })).room s m ([.ref (q 15 0), .int a1, .int a2, .int a3] : List Value).toArray below meth c H locs 0 0 (MQ below (va_Qv (fun S' => Post S') (fun (S' : CST) t => va_P D vwCl (cW cI cZ cP cF q S') t.heap ∧ va_D A (cW cI cZ cP cF q S') ∧ S'.2 = S.2) A) ([.ref (q 15 0), .int a1, .int a2, .int a3] : List Value).toArray s 0 0 A) (F0 m 7 ls []) := by
      intro n_7
      induction n_7 with
      | zero =>
        intro S_7 x7_2 x7_3 x7_4 H locs ls h hP hD hS hN hl
        exact False.elim h
      | succ n_7 ih_7 =>
        intro S_7 x7_2 x7_3 x7_4 H locs ls h hP hD hS hN hl
        unfold wl_X9_lay_7 at h
        refine lv_iload hx hb dX9_lay_7 (lv_at hl 3 rfl) ?_
        refine lv_iload_n hx hb dX9_lay_9 rfl (lv_at hl 1 rfl) ?_
        refine lv_icmp_gt (tgt := 63) hx hb dX9_lay_10 (by decide) (fun c_1 => ?_) (fun c_1 => ?_)
        · have h := h.1 c_1
          exact EX_7_63  S_7  H locs _ h hP hD hS hN (lv_sub hl [] rfl)
        · have h := h.2 c_1
          refine lv_iload hx hb dX9_lay_13 (lv_at hl 3 rfl) ?_
          refine lv_bipush (v := 15) hx hb dX9_lay_15 (by decide) ?_
          refine lv_icmp_ge (tgt := 63) hx hb dX9_lay_17 (by decide) (fun c_2 => ?_) (fun c_2 => ?_)
          · have h := h.1 c_2
            exact EX_7_63  S_7  H locs _ h hP hD hS hN (lv_sub hl [] rfl)
          · have h := h.2 c_2
            refine lv_aload_n hx hb dX9_lay_20 rfl (lv_at hl 0 rfl) ?_
            obtain ⟨p_3, hp_3⟩ := cget_15 cI cZ cP cF q S_7
            have hi_3 : cin S_7 15 0 := Or.inl ⟨by decide, rfl⟩
            refine va_get (D := D) (ci := 9) (v := .ref (q 16 0)) (C := RX9) (T := TX9) (N := 5) hx hb hts (fun _ h => List.mem_cons_of_mem _ (List.mem_append_left _ (List.mem_append_right _ h))) hown hK hP p_3 hp_3 rfl 1 (by decide) (hts (.fieldLink RX9 9 "TemplateForge$Smith" "known" "[Z") (List.mem_of_getElem? (i := 5) rfl)) (fun _ h9 => h9) rfl dX9_lay_21 ?_
            refine lv_iload hx hb dX9_lay_24 (lv_at hl 3 rfl) ?_
            obtain ⟨p_4, hp_4⟩ := cget_16 cI cZ cP cF q S_7
            have hi_4 : cin S_7 16 0 := Or.inl ⟨by decide, rfl⟩
            have hin_4 := h.1
            have h := h.2
            refine va_zald hx hb hK hP p_4 1 hp_4 rfl hin_4 dX9_lay_26 ?_
            refine lv_if_eq (tgt := 57) hx hb dX9_lay_27 (by decide) (fun c_5 => ?_) (fun c_5 => ?_)
            · have h := h.1 c_5
              refine lv_iinc (v := x7_4 + 1) (lv' := [(4, .int (x7_4 + 1)), (0, .ref (q 15 0)), (2, .int x7_2), (3, .int x7_3)]) hx hb dX9_lay_57 hl (k := 3) rfl rfl (by decide) rfl (fun ls hl => ?_)
              refine lv_goto (tgt := 7) hx hb dX9_lay_60 (by decide) ?_
              exact ih_7  S_7 x7_2 x7_3 (x7_4 + 1) H locs _ h hP hD hS hN (lv_sub hl [1, 2, 3, 0] rfl)
            · have h := h.2 c_5
              refine lv_aload_n hx hb dX9_lay_30 rfl (lv_at hl 0 rfl) ?_
              obtain ⟨p_6, hp_6⟩ := cget_15 cI cZ cP cF q S_7
              have hi_6 : cin S_7 15 0 := Or.inl ⟨by decide, rfl⟩
              refine va_get (D := D) (ci := 9) (v := .ref (q 7 0)) (C := RX9) (T := TX9) (N := 5) hx hb hts (fun _ h => List.mem_cons_of_mem _ (List.mem_append_left _ (List.mem_append_right _ h))) hown hK hP p_6 hp_6 rfl 0 (by decide) (hts (.fieldLink RX9 25 "TemplateForge$Smith" "draft" "LTemplateForge$Draft;") (List.mem_of_getElem? (i := 6) rfl)) (fun _ h9 => h9) rfl dX9_lay_31 ?_
              refine lv_iconst (v := 0) hx hb dX9_lay_34 (by decide) ?_
              refine lv_iload hx hb dX9_lay_35 (lv_at hl 3 rfl) ?_
              refine lv_aload_n hx hb dX9_lay_37 rfl (lv_at hl 0 rfl) ?_
              obtain ⟨p_7, hp_7⟩ := cget_15 cI cZ cP cF q S_7
              have hi_7 : cin S_7 15 0 := Or.inl ⟨by decide, rfl⟩
              refine va_get (D := D) (ci := 9) (v := .ref (q 17 0)) (C := RX9) (T := TX9) (N := 5) hx hb hts (fun _ h => List.mem_cons_of_mem _ (List.mem_append_left _ (List.mem_append_right _ h))) hown hK hP p_7 hp_7 rfl 2 (by decide) (hts (.fieldLink RX9 15 "TemplateForge$Smith" "worth" "[I") (List.mem_of_getElem? (i := 7) rfl)) (fun _ h9 => h9) rfl dX9_lay_38 ?_
              refine lv_iload hx hb dX9_lay_41 (lv_at hl 3 rfl) ?_
              obtain ⟨p_8, hp_8⟩ := cget_17 cI cZ cP cF q S_7
              have hi_8 : cin S_7 17 0 := Or.inl ⟨by decide, rfl⟩
              have hin_8 := h.1
              have h := h.2
              refine va_iald hx hb hK hP p_8 0 hp_8 rfl hin_8 dX9_lay_43 ?_
              refine lv_iconst (v := 0) hx hb dX9_lay_44 (by decide) ?_
              refine lv_iload_n hx hb dX9_lay_45 rfl (lv_at hl 2 rfl) ?_
              obtain ⟨p_9, hp_9⟩ := cget_7 cI cZ cP cF q S_7
              have hi_9 : cin S_7 7 0 := Or.inl ⟨by decide, rfl⟩
              have hFc := zm_free hD hS hA
              refine va_callv (va_runV (As := [.int 0, .int x7_4, .int (cv S_7 170 0 (x7_4 : Int32).toNatClampNeg), .int 0, .int x7_3]) (rest := []) ⟨hx, hb, hml, hown, hts⟩ (zd_X3_add l D cI cZ cP cF q S_7 0 x7_4 (cv S_7 170 0 (x7_4 : Int32).toNatClampNeg) 0 x7_3 H.size _ h) (cwV 5 hts zg_zd_X9_lay_zd_X3_add_121 rfl rfl rfl (by decide +kernel) ⟨Nat.le_of_ble_eq_true rfl, Nat.le_of_ble_eq_true rfl⟩) ⟨zCW, va_recv hK hP (ci := 3) (q0 := p_9) rfl hp_9, fun U hU hW => ⟨rfl, by rw [hU], by rw [hU]; exact hP, hE.warm hW, hD.weaken (fun _ _ _ _ => trivial)⟩⟩ rfl rfl hl.1 rfl (lv_room (Nat.le_of_ble_eq_true rfl)) dX9_lay_46 ⟨Nat.le_of_ble_eq_true rfl, Nat.le_of_ble_eq_true rfl⟩) hS (fun q _ h => hFc q h) hFc (fun S10 t H locs ht hvm h hB hz1 hk1 hS => ?_)
              obtain ⟨hP, hD1, hN1⟩ := hB
              rw [ht] at hP
              have hD := hD1.weaken (fun k q _ hq => hFc q.1 hq)
              have hN := hN1.trans hN
              refine lv_aload_n hx hb dX9_lay_49 rfl (lv_at hl 0 rfl) ?_
              obtain ⟨p_11, hp_11⟩ := cget_15 cI cZ cP cF q S10
              have hi_11 : cin S10 15 0 := Or.inl ⟨by decide, rfl⟩
              refine va_get (D := D) (ci := 9) (v := .ref (q 16 0)) (C := RX9) (T := TX9) (N := 5) hx hb hts (fun _ h => List.mem_cons_of_mem _ (List.mem_append_left _ (List.mem_append_right _ h))) hown hK hP p_11 hp_11 rfl 1 (by decide) (hts (.fieldLink RX9 9 "TemplateForge$Smith" "known" "[Z") (List.mem_of_getElem? (i := 5) rfl)) (fun _ h9 => h9) rfl dX9_lay_50 ?_
              refine lv_iload hx hb dX9_lay_53 (lv_at hl 3 rfl) ?_
              refine lv_iconst (v := 0) hx hb dX9_lay_55 (by decide) ?_
              obtain ⟨p_12, hp_12⟩ := cget_16 cI cZ cP cF q S10
              have hi_12 : cin S10 16 0 := Or.inl ⟨by decide, rfl⟩
              have hin_12 := h.1
              have h := h.2
              have hD0_12 := hD
              refine va_zast hx hb hK hP hD hS p_12 1 hp_12 rfl hin_12 dX9_lay_56 (fun H locs hP hD hS => ?_)
              obtain ⟨S13, eS13⟩ : ∃ z, z = cs S10 160 0 (upd (cv S10 160 0) (x7_4 : Int32).toNatClampNeg (vp_nar .boolean 0)) := ⟨_, rfl⟩
              have hP : va_P D vwCl (cW cI cZ cP cF q S13) H := by rw [eS13, ← cW_put (k := 160) (κ := 16) (i := 0) (g := (upd (cv S10 160 0) (x7_4 : Int32).toNatClampNeg (vp_nar .boolean 0))) rfl hD0_12 hp_12 hi_12, cput_160]; exact hP
              have hD : va_D A (cW cI cZ cP cF q S13) := by rw [eS13, ← cW_put (k := 160) (κ := 16) (i := 0) (g := (upd (cv S10 160 0) (x7_4 : Int32).toNatClampNeg (vp_nar .boolean 0))) rfl hD0_12 hp_12 hi_12, cput_160]; exact hD
              have hN : S13.2 = S.2 := by rw [eS13]; exact hN
              have h := h S13 eS13
              refine lv_iinc (v := x7_4 + 1) (lv' := [(4, .int (x7_4 + 1)), (0, .ref (q 15 0)), (2, .int x7_2), (3, .int x7_3)]) hx hb dX9_lay_57 hl (k := 3) rfl rfl (by decide) rfl (fun ls hl => ?_)
              refine lv_goto (tgt := 7) hx hb dX9_lay_60 (by decide) ?_
              exact ih_7  S13 x7_2 x7_3 (x7_4 + 1) H locs _ h hP hD hS hN (lv_sub hl [1, 2, 3, 0] rfl)
    obtain ⟨n_7, h⟩ := h
    exact LP_7 n_7 S a2 a3 (if a1 < 0 then 0 else a1) H locs _ h hP hD hS hN (lv_sub hl [1, 3, 4, 0] rfl)
  exact key _ _ hP va_S.rf

def wl_X9_addGuards_7 (K_84 : CST → Prop) (Post : CST → Prop) : Nat → CST → Nat → Int32 → Int32 → Prop
  | 0, _, _, _, _ => False
  | n_7 + 1, S_7, y7_1, x7_3, x7_4 => ((11 ≤ x7_4) → ((K_84 S_7 ))) ∧ ((¬ (11 ≤ x7_4)) → (vp_in x7_4 11 ∧ (((((cv S_7 190 0 (x7_4 : Int32).toNatClampNeg) : Int32) = 0) → (wl_X9_addGuards_7 K_84 Post n_7 S_7 y7_1 x7_3 (x7_4 + 1))) ∧ ((¬ (((cv S_7 190 0 (x7_4 : Int32).toNatClampNeg) : Int32) = 0)) → (((3 ≤ x7_4) → (cin S_7 28 y7_1 ∧ (wp_X5_valueOf S_7 y7_1 x7_4 (fun r8 => wp_X3_add S_7 18 (x7_4 - 3) r8 0 x7_3 (fun S10 => wl_X9_addGuards_7 K_84 Post n_7 S10 y7_1 x7_3 (x7_4 + 1)))))) ∧ ((¬ (3 ≤ x7_4)) → (cin S_7 28 y7_1 ∧ (wp_X5_valueOf S_7 y7_1 x7_4 (fun r13 => wp_X3_add S_7 17 x7_4 r13 0 x7_3 (fun S15 => wl_X9_addGuards_7 K_84 Post n_7 S15 y7_1 x7_3 (x7_4 + 1)))))))))))
def wp_X9_addGuards (S : CST) (i1 : Nat) (a2 : Int32) (a3 : Int32) (Post : CST → Prop) : Prop :=
  ∃ n_7, wl_X9_addGuards_7 (fun S_84 => Post S_84) Post n_7 S i1 a3 (if a2 < 0 then 0 else a2)
def zw_zd_X9_addGuards_w0 : List Cond := [.methodLink RX9 112 Lib.Math.max.name, .static Lib.Math.max.name, .initialized "java/lang/Math", .code Lib.Math.max.name Lib.Math.max.code 2 (some .int), .fieldLink RX9 22 "TemplateForge$Smith" "assumed" "[Z", .fieldLink RX9 25 "TemplateForge$Smith" "draft" "LTemplateForge$Draft;", .code yX5_valueOf cX5_valueOf 2 (some .int), .fieldLink RX5 9 "TemplateForge$Heat" "first" "[I", .methodLink RX9 118 yX5_valueOf, .instanceMethod yX5_valueOf, .selects RX5 yX5_valueOf yX5_valueOf, .initialized RX5, .code yX3_add cX3_add 7 none, .fieldLink RX3 18 "TemplateForge$Draft" "parts" "I", .fieldLink RX3 9 "TemplateForge$Draft" "cells" "[I", .methodLink RX9 121 yX3_add]
def zw_zd_X9_addGuards_w1 : List Cond := [.instanceMethod yX3_add, .selects RX3 yX3_add yX3_add, .initialized RX3]
def zw_zd_X9_addGuards : List Cond := .code yX9_addGuards cX9_addGuards 6 none :: ((zw_zd_X9_addGuards_w0 ++ (zw_zd_X9_addGuards_w1)) ++ wsX90 ++ wsX50 ++ wsX30)
set_option maxRecDepth 100000 in
theorem zg_zd_X9_addGuards_zd_X5_valueOf_118_a : GoodIn zw_zd_X9_addGuards [.methodLink RX9 118 yX5_valueOf, .instanceMethod yX5_valueOf, .selects RX5 yX5_valueOf yX5_valueOf, .initialized RX5] := goodIn_r _ [9, 10, 11, 12] rfl (by decide +kernel)
set_option maxRecDepth 100000 in
theorem zg_zd_X9_addGuards_zd_X5_valueOf_118_c : GoodIn zw_zd_X9_addGuards [.code yX5_valueOf cX5_valueOf 2 (some .int)] := goodIn_r _ [7] rfl (by decide +kernel)
set_option maxRecDepth 100000 in
theorem zg_zd_X9_addGuards_zd_X5_valueOf_118_0 : GoodIn zw_zd_X9_addGuards zw_zd_X5_valueOf_w0 := goodIn_r _ [8] rfl (by decide +kernel)
theorem zg_zd_X9_addGuards_zd_X5_valueOf_118 : GoodIn zw_zd_X9_addGuards (wsV RX9 118 RX5 yX5_valueOf zw_zd_X5_valueOf) := goodIn_app zg_zd_X9_addGuards_zd_X5_valueOf_118_a (goodIn_ca (a := (zw_zd_X5_valueOf_w0)) (show GoodIn zw_zd_X9_addGuards (.code yX5_valueOf cX5_valueOf 2 (some .int) :: (zw_zd_X5_valueOf_w0)) from goodIn_app zg_zd_X9_addGuards_zd_X5_valueOf_118_c (zg_zd_X9_addGuards_zd_X5_valueOf_118_0)) (fun w h => ⟨(fun _ h => List.mem_cons_of_mem _ (List.mem_append_left _ (List.mem_append_right _ h))) w h, good_of_word (List.all_eq_true.mp zgw_X5 w h)⟩))
set_option maxRecDepth 100000 in
theorem zg_zd_X9_addGuards_zd_X3_add_121_a : GoodIn zw_zd_X9_addGuards [.methodLink RX9 121 yX3_add, .instanceMethod yX3_add, .selects RX3 yX3_add yX3_add, .initialized RX3] := goodIn_r _ [16, 17, 18, 19] rfl (by decide +kernel)
set_option maxRecDepth 100000 in
theorem zg_zd_X9_addGuards_zd_X3_add_121_c : GoodIn zw_zd_X9_addGuards [.code yX3_add cX3_add 7 none] := goodIn_r _ [13] rfl (by decide +kernel)
set_option maxRecDepth 100000 in
theorem zg_zd_X9_addGuards_zd_X3_add_121_0 : GoodIn zw_zd_X9_addGuards zw_zd_X3_add_w0 := goodIn_r _ [14, 15] rfl (by decide +kernel)
theorem zg_zd_X9_addGuards_zd_X3_add_121 : GoodIn zw_zd_X9_addGuards (wsV RX9 121 RX3 yX3_add zw_zd_X3_add) := goodIn_app zg_zd_X9_addGuards_zd_X3_add_121_a (goodIn_ca (a := (zw_zd_X3_add_w0)) (show GoodIn zw_zd_X9_addGuards (.code yX3_add cX3_add 7 none :: (zw_zd_X3_add_w0)) from goodIn_app zg_zd_X9_addGuards_zd_X3_add_121_c (zg_zd_X9_addGuards_zd_X3_add_121_0)) (fun w h => ⟨(fun _ h => List.mem_cons_of_mem _ (List.mem_append_right _ h)) w h, good_of_word (List.all_eq_true.mp zgw_X3 w h)⟩))
set_option maxHeartbeats 16000000 in
set_option maxRecDepth 100000 in
theorem zd_X9_addGuards (l : Launch) (D : va_G) (cI cZ cP cF : Nat) (q : Nat → Nat → Nat) (S : CST) (i1 : Nat) (a2 : Int32) (a3 : Int32) (sz : Nat) (Post : CST → Prop) (h : wp_X9_addGuards S i1 a2 a3 Post) : Met l yX9_addGuards zw_zd_X9_addGuards ({ frames := 1, cells := 0, slots := 0, locals := 30 }) (va_Pc [.ref (q 15 0), .ref (q 28 i1), .int a2, .int a3] (fun U => U.heap.size = sz ∧ va_P D vwCl (cW cI cZ cP cF q S) U.heap ∧ zF D cI cZ cP cF U ∧ va_D (fun _ => True) (cW cI cZ cP cF q S))) (va_Qv (fun S' => Post S') (fun (S' : CST) t => va_P D vwCl (cW cI cZ cP cF q S') t.heap ∧ va_D (va_A (cW cI cZ cP cF q S) sz) (cW cI cZ cP cF q S') ∧ S'.2 = S.2) (va_A (cW cI cZ cP cF q S) sz)) 0 0 (va_A (cW cI cZ cP cF q S) sz) := by
  unfold wp_X9_addGuards at h
  refine Met.ofW (cc := cX9_addGuards) (maxL := 6) (ret := none) (by decide) rfl ?_
  intro p e s m args below meth c s₁ B hml hv
  obtain ⟨rfl, hsz, hP, hE, hD0⟩ := hv
  have hx := B.exec
  have hb := B.bytes
  have hr := B.returns
  have hts := atoms_spec (ws := zw_zd_X9_addGuards) B.pre
  have hown : s.vm.findClass RX9 = some m.cls := findClass_of_methodNamed B.named
  have hlocks := B.notSynchronized
  have hK := hE.k
  subst hsz
  have hD := hD0.self (sz := s.heap.size)
  generalize hAe : va_A (cW cI cZ cP cF q S) s.heap.size = A at hD ⊢
  have hA : ∀ q : Nat, s.heap.size ≤ q → A q := fun q h => by rw [← hAe]; exact Or.inr h
  have hN : S.2 = S.2 := rfl
  have hl := lv_entry ([.ref (q 15 0), .ref (q 28 i1), .int a2, .int a3]) (n := 6) (Nat.le_of_ble_eq_true rfl)
  rw [lg_entry_eq]
  generalize (lg_sl ([.ref (q 15 0), .ref (q 28 i1), .int a2, .int a3]) ++ List.replicate (6 - (lg_sl ([.ref (q 15 0), .ref (q 28 i1), .int a2, .int a3])).length) Slot.unset).toArray = ls at hl ⊢
  have hl : lv_has ls 6 [(0, .ref (q 15 0)), (1, .ref (q 28 i1)), (2, .int a2), (3, .int a3)] := hl
  have key : ∀ (H : Heap) (locs : List Loc), va_P D vwCl (cW cI cZ cP cF q S) H → va_S A s.heap H locs → W p l e (headSpec zw_zd_X9_addGuards ({ frames := 1, cells := 0, slots := 0, locals := 30 })).room s m ([.ref (q 15 0), .ref (q 28 i1), .int a2, .int a3] : List Value).toArray below meth c H locs 0 0 (MQ below (va_Qv (fun S' => Post S') (fun (S' : CST) t => va_P D vwCl (cW cI cZ cP cF q S') t.heap ∧ va_D A (cW cI cZ cP cF q S') ∧ S'.2 = S.2) A) ([.ref (q 15 0), .ref (q 28 i1), .int a2, .int a3] : List Value).toArray s 0 0 A) (F0 m 0 ls []) := by
    intro H locs hP hS
    refine lv_iload_n hx hb dX9_addGuards_0 rfl (lv_at hl 2 rfl) ?_
    refine lv_iconst (v := 0) hx hb dX9_addGuards_1 (by decide) ?_
    refine va_mmax hx hb (hml.trans hl.1.symm) hown (hts (.methodLink RX9 112 Lib.Math.max.name) (List.mem_of_getElem? (i := 1) rfl)) (hts (.static Lib.Math.max.name) (List.mem_of_getElem? (i := 2) rfl)) (hts (.initialized "java/lang/Math") (List.mem_of_getElem? (i := 3) rfl)) (hts (.code Lib.Math.max.name Lib.Math.max.code 2 (some .int)) (List.mem_of_getElem? (i := 4) rfl)) (Nat.le_of_ble_eq_true rfl) (by exact Nat.le_of_ble_eq_true rfl) (Nat.zero_le _) (Nat.zero_le _) dX9_addGuards_2 ?_
    refine lv_istore (lv' := [(4, .int (if a2 < 0 then 0 else a2)), (0, .ref (q 15 0)), (1, .ref (q 28 i1)), (2, .int a2), (3, .int a3)]) hx hb dX9_addGuards_5 hl (by decide) rfl (fun ls hl => ?_)
    have EX_7_84 : ∀ (S_84 : CST) (H : Heap) (locs : List Loc) (ls : Array Slot), (Post S_84) → va_P D vwCl (cW cI cZ cP cF q S_84) H → va_D A (cW cI cZ cP cF q S_84) → va_S A s.heap H locs → S_84.2 = S.2 → lv_has ls 6 [] → W p l e (headSpec zw_zd_X9_addGuards ({ frames := 1, cells := 0, slots := 0, locals := 30 })).room s m ([.ref (q 15 0), .ref (q 28 i1), .int a2, .int a3] : List Value).toArray below meth c H locs 0 0 (MQ below (va_Qv (fun S' => Post S') (fun (S' : CST) t => va_P D vwCl (cW cI cZ cP cF q S') t.heap ∧ va_D A (cW cI cZ cP cF q S') ∧ S'.2 = S.2) A) ([.ref (q 15 0), .ref (q 28 i1), .int a2, .int a3] : List Value).toArray s 0 0 A) (F0 m 84 ls []) := by
      intro S_84  H locs ls h hP hD hS hN hl
      exact W.vret hx hb hr (fun t ht hW => ⟨⟨S_84, rfl, h, by rw [ht]; exact hP, hD, hN⟩, hS.F ht⟩) hS.2.2 dX9_addGuards_84
    have LP_7 : ∀ (n_7 : Nat), ∀ (S_7 : CST) (y7_1 : Nat) (x7_3 : Int32) (x7_4 : Int32) (H : Heap) (locs : List Loc) (ls : Array Slot), wl_X9_addGuards_7 (fun S_84 => Post S_84) Post n_7 S_7 y7_1 x7_3 x7_4 → va_P D vwCl (cW cI cZ cP cF q S_7) H → va_D A (cW cI cZ cP cF q S_7) → va_S A s.heap H locs → S_7.2 = S.2 → lv_has ls 6 [(0, .ref (q 15 0)), (1, .ref (q 28 y7_1)), (3, .int x7_3), (4, .int x7_4)] → W p l e (headSpec zw_zd_X9_addGuards ({ frames := 1, cells := 0, slots := 0, locals := 30 })).room s m ([.ref (q 15 0), .ref (q 28 i1), .int a2, .int a3] : List Value).toArray below meth c H locs 0 0 (MQ below (va_Qv (fun S' => Post S') (fun (S' : CST) t => va_P D vwCl (cW cI cZ cP cF q S') t.heap ∧ va_D A (cW cI cZ cP cF q S') ∧ S'.2 = S.2) A) ([.ref (q 15 0), .ref (q 28 i1), .int a2, .int a3] : List Value).toArray s 0 0 A) (F0 m 7 ls []) := by
      intro n_7
      induction n_7 with
      | zero =>
        intro S_7 y7_1 x7_3 x7_4 H locs ls h hP hD hS hN hl
        exact False.elim h
      | succ n_7 ih_7 =>
        intro S_7 y7_1 x7_3 x7_4 H locs ls h hP hD hS hN hl
        unfold wl_X9_addGuards_7 at h
        refine lv_iload hx hb dX9_addGuards_7 (lv_at hl 3 rfl) ?_
        refine lv_bipush (v := 11) hx hb dX9_addGuards_9 (by decide) ?_
        refine lv_icmp_ge (tgt := 84) hx hb dX9_addGuards_11 (by decide) (fun c_1 => ?_) (fun c_1 => ?_)
        · have h := h.1 c_1
          exact EX_7_84  S_7  H locs _ h hP hD hS hN (lv_sub hl [] rfl)
        · have h := h.2 c_1
          refine lv_aload_n hx hb dX9_addGuards_14 rfl (lv_at hl 0 rfl) ?_
          obtain ⟨p_2, hp_2⟩ := cget_15 cI cZ cP cF q S_7
          have hi_2 : cin S_7 15 0 := Or.inl ⟨by decide, rfl⟩
          refine va_get (D := D) (ci := 9) (v := .ref (q 19 0)) (C := RX9) (T := TX9) (N := 5) hx hb hts (fun _ h => List.mem_cons_of_mem _ (List.mem_append_left _ (List.mem_append_left _ (List.mem_append_right _ h)))) hown hK hP p_2 hp_2 rfl 4 (by decide) (hts (.fieldLink RX9 22 "TemplateForge$Smith" "assumed" "[Z") (List.mem_of_getElem? (i := 5) rfl)) (fun _ h9 => h9) rfl dX9_addGuards_15 ?_
          refine lv_iload hx hb dX9_addGuards_18 (lv_at hl 3 rfl) ?_
          obtain ⟨p_3, hp_3⟩ := cget_19 cI cZ cP cF q S_7
          have hi_3 : cin S_7 19 0 := Or.inl ⟨by decide, rfl⟩
          have hin_3 := h.1
          have h := h.2
          refine va_zald hx hb hK hP p_3 1 hp_3 rfl hin_3 dX9_addGuards_20 ?_
          refine lv_if_eq (tgt := 78) hx hb dX9_addGuards_21 (by decide) (fun c_4 => ?_) (fun c_4 => ?_)
          · have h := h.1 c_4
            refine lv_iinc (v := x7_4 + 1) (lv' := [(4, .int (x7_4 + 1)), (0, .ref (q 15 0)), (1, .ref (q 28 y7_1)), (3, .int x7_3)]) hx hb dX9_addGuards_78 hl (k := 3) rfl rfl (by decide) rfl (fun ls hl => ?_)
            refine lv_goto (tgt := 7) hx hb dX9_addGuards_81 (by decide) ?_
            exact ih_7  S_7 y7_1 x7_3 (x7_4 + 1) H locs _ h hP hD hS hN (lv_sub hl [1, 2, 3, 0] rfl)
          · have h := h.2 c_4
            refine lv_iload hx hb dX9_addGuards_24 (lv_at hl 3 rfl) ?_
            refine lv_iconst (v := 3) hx hb dX9_addGuards_26 (by decide) ?_
            refine lv_icmp_ge (tgt := 34) hx hb dX9_addGuards_27 (by decide) (fun c_5 => ?_) (fun c_5 => ?_)
            · have h := h.1 c_5
              refine lv_iconst (v := 0) hx hb dX9_addGuards_34 (by decide) ?_
              refine lv_istore (lv' := [(5, .int 0), (0, .ref (q 15 0)), (1, .ref (q 28 y7_1)), (3, .int x7_3), (4, .int x7_4)]) hx hb dX9_addGuards_35 hl (by decide) rfl (fun ls hl => ?_)
              refine lv_aload_n hx hb dX9_addGuards_37 rfl (lv_at hl 1 rfl) ?_
              obtain ⟨p_6, hp_6⟩ := cget_15 cI cZ cP cF q S_7
              have hi_6 : cin S_7 15 0 := Or.inl ⟨by decide, rfl⟩
              refine va_get (D := D) (ci := 9) (v := .ref (q 7 0)) (C := RX9) (T := TX9) (N := 5) hx hb hts (fun _ h => List.mem_cons_of_mem _ (List.mem_append_left _ (List.mem_append_left _ (List.mem_append_right _ h)))) hown hK hP p_6 hp_6 rfl 0 (by decide) (hts (.fieldLink RX9 25 "TemplateForge$Smith" "draft" "LTemplateForge$Draft;") (List.mem_of_getElem? (i := 6) rfl)) (fun _ h9 => h9) rfl dX9_addGuards_38 ?_
              refine lv_iload hx hb dX9_addGuards_41 (lv_at hl 0 rfl) ?_
              refine lv_if_eq (tgt := 51) hx hb dX9_addGuards_43 (by decide) (fun _ => ?_) (fun c => absurd (by decide) c)
              refine lv_bipush (v := 18) hx hb dX9_addGuards_51 (by decide) ?_
              refine lv_iload hx hb dX9_addGuards_53 (lv_at hl 0 rfl) ?_
              refine lv_if_eq (tgt := 63) hx hb dX9_addGuards_55 (by decide) (fun _ => ?_) (fun c => absurd (by decide) c)
              refine lv_iload hx hb dX9_addGuards_63 (lv_at hl 4 rfl) ?_
              refine lv_iconst (v := 3) hx hb dX9_addGuards_65 (by decide) ?_
              refine lv_isub hx hb dX9_addGuards_66 ?_
              refine lv_aload_n hx hb dX9_addGuards_67 rfl (lv_at hl 2 rfl) ?_
              refine lv_iload hx hb dX9_addGuards_68 (lv_at hl 4 rfl) ?_
              have hi_7 := h.1
              have h := h.2
              obtain ⟨p_7, hp_7⟩ := cget_28 cI cZ cP cF q S_7 hi_7
              refine vp_callSi (va_Run.run (va_runV (As := [.int x7_4]) (rest := [.int (x7_4 - 3), .int 18, .ref (q 7 0)]) ⟨hx, hb, hml, hown, hts⟩ (zd_X5_valueOf l D cI cZ cP cF q S_7 y7_1 x7_4  _ h) (cwV 1 hts zg_zd_X9_addGuards_zd_X5_valueOf_118 rfl rfl rfl (by decide +kernel) ⟨Nat.le_of_ble_eq_true rfl, Nat.le_of_ble_eq_true rfl⟩) ⟨zCR, va_recv hK hP (ci := 5) (q0 := p_7) rfl hp_7, fun U hU hW => ⟨rfl, by rw [hU]; exact hP, hE.warm hW⟩⟩ rfl rfl hl.1 rfl (lv_room (Nat.le_of_ble_eq_true rfl)) dX9_addGuards_70 ⟨Nat.le_of_ble_eq_true rfl, Nat.le_of_ble_eq_true rfl⟩)) (fun r8 h => ?_)
              refine lv_iconst (v := 0) hx hb dX9_addGuards_73 (by decide) ?_
              refine lv_iload_n hx hb dX9_addGuards_74 rfl (lv_at hl 3 rfl) ?_
              obtain ⟨p_9, hp_9⟩ := cget_7 cI cZ cP cF q S_7
              have hi_9 : cin S_7 7 0 := Or.inl ⟨by decide, rfl⟩
              have hFc := zm_free hD hS hA
              refine va_callv (va_runV (As := [.int 18, .int (x7_4 - 3), .int r8, .int 0, .int x7_3]) (rest := []) ⟨hx, hb, hml, hown, hts⟩ (zd_X3_add l D cI cZ cP cF q S_7 18 (x7_4 - 3) r8 0 x7_3 H.size _ h) (cwV 5 hts zg_zd_X9_addGuards_zd_X3_add_121 rfl rfl rfl (by decide +kernel) ⟨Nat.le_of_ble_eq_true rfl, Nat.le_of_ble_eq_true rfl⟩) ⟨zCW, va_recv hK hP (ci := 3) (q0 := p_9) rfl hp_9, fun U hU hW => ⟨rfl, by rw [hU], by rw [hU]; exact hP, hE.warm hW, hD.weaken (fun _ _ _ _ => trivial)⟩⟩ rfl rfl hl.1 rfl (lv_room (Nat.le_of_ble_eq_true rfl)) dX9_addGuards_75 ⟨Nat.le_of_ble_eq_true rfl, Nat.le_of_ble_eq_true rfl⟩) hS (fun q _ h => hFc q h) hFc (fun S10 t H locs ht hvm h hB hz1 hk1 hS => ?_)
              obtain ⟨hP, hD1, hN1⟩ := hB
              rw [ht] at hP
              have hD := hD1.weaken (fun k q _ hq => hFc q.1 hq)
              have hN := hN1.trans hN
              refine lv_iinc (v := x7_4 + 1) (lv' := [(4, .int (x7_4 + 1)), (5, .int 0), (0, .ref (q 15 0)), (1, .ref (q 28 y7_1)), (3, .int x7_3)]) hx hb dX9_addGuards_78 hl (k := 4) rfl rfl (by decide) rfl (fun ls hl => ?_)
              refine lv_goto (tgt := 7) hx hb dX9_addGuards_81 (by decide) ?_
              exact ih_7  S10 y7_1 x7_3 (x7_4 + 1) H locs _ h hP hD hS hN (lv_sub hl [2, 3, 4, 0] rfl)
            · have h := h.2 c_5
              refine lv_iconst (v := 1) hx hb dX9_addGuards_30 (by decide) ?_
              refine lv_goto (tgt := 35) hx hb dX9_addGuards_31 (by decide) ?_
              refine lv_istore (lv' := [(5, .int 1), (0, .ref (q 15 0)), (1, .ref (q 28 y7_1)), (3, .int x7_3), (4, .int x7_4)]) hx hb dX9_addGuards_35 hl (by decide) rfl (fun ls hl => ?_)
              refine lv_aload_n hx hb dX9_addGuards_37 rfl (lv_at hl 1 rfl) ?_
              obtain ⟨p_11, hp_11⟩ := cget_15 cI cZ cP cF q S_7
              have hi_11 : cin S_7 15 0 := Or.inl ⟨by decide, rfl⟩
              refine va_get (D := D) (ci := 9) (v := .ref (q 7 0)) (C := RX9) (T := TX9) (N := 5) hx hb hts (fun _ h => List.mem_cons_of_mem _ (List.mem_append_left _ (List.mem_append_left _ (List.mem_append_right _ h)))) hown hK hP p_11 hp_11 rfl 0 (by decide) (hts (.fieldLink RX9 25 "TemplateForge$Smith" "draft" "LTemplateForge$Draft;") (List.mem_of_getElem? (i := 6) rfl)) (fun _ h9 => h9) rfl dX9_addGuards_38 ?_
              refine lv_iload hx hb dX9_addGuards_41 (lv_at hl 0 rfl) ?_
              refine lv_if_eq (tgt := 51) hx hb dX9_addGuards_43 (by decide) (fun c => absurd c (by decide)) (fun _ => ?_)
              refine lv_bipush (v := 17) hx hb dX9_addGuards_46 (by decide) ?_
              refine lv_goto (tgt := 53) hx hb dX9_addGuards_48 (by decide) ?_
              refine lv_iload hx hb dX9_addGuards_53 (lv_at hl 0 rfl) ?_
              refine lv_if_eq (tgt := 63) hx hb dX9_addGuards_55 (by decide) (fun c => absurd c (by decide)) (fun _ => ?_)
              refine lv_iload hx hb dX9_addGuards_58 (lv_at hl 4 rfl) ?_
              refine lv_goto (tgt := 67) hx hb dX9_addGuards_60 (by decide) ?_
              refine lv_aload_n hx hb dX9_addGuards_67 rfl (lv_at hl 2 rfl) ?_
              refine lv_iload hx hb dX9_addGuards_68 (lv_at hl 4 rfl) ?_
              have hi_12 := h.1
              have h := h.2
              obtain ⟨p_12, hp_12⟩ := cget_28 cI cZ cP cF q S_7 hi_12
              refine vp_callSi (va_Run.run (va_runV (As := [.int x7_4]) (rest := [.int x7_4, .int 17, .ref (q 7 0)]) ⟨hx, hb, hml, hown, hts⟩ (zd_X5_valueOf l D cI cZ cP cF q S_7 y7_1 x7_4  _ h) (cwV 1 hts zg_zd_X9_addGuards_zd_X5_valueOf_118 rfl rfl rfl (by decide +kernel) ⟨Nat.le_of_ble_eq_true rfl, Nat.le_of_ble_eq_true rfl⟩) ⟨zCR, va_recv hK hP (ci := 5) (q0 := p_12) rfl hp_12, fun U hU hW => ⟨rfl, by rw [hU]; exact hP, hE.warm hW⟩⟩ rfl rfl hl.1 rfl (lv_room (Nat.le_of_ble_eq_true rfl)) dX9_addGuards_70 ⟨Nat.le_of_ble_eq_true rfl, Nat.le_of_ble_eq_true rfl⟩)) (fun r13 h => ?_)
              refine lv_iconst (v := 0) hx hb dX9_addGuards_73 (by decide) ?_
              refine lv_iload_n hx hb dX9_addGuards_74 rfl (lv_at hl 3 rfl) ?_
              obtain ⟨p_14, hp_14⟩ := cget_7 cI cZ cP cF q S_7
              have hi_14 : cin S_7 7 0 := Or.inl ⟨by decide, rfl⟩
              have hFc := zm_free hD hS hA
              refine va_callv (va_runV (As := [.int 17, .int x7_4, .int r13, .int 0, .int x7_3]) (rest := []) ⟨hx, hb, hml, hown, hts⟩ (zd_X3_add l D cI cZ cP cF q S_7 17 x7_4 r13 0 x7_3 H.size _ h) (cwV 5 hts zg_zd_X9_addGuards_zd_X3_add_121 rfl rfl rfl (by decide +kernel) ⟨Nat.le_of_ble_eq_true rfl, Nat.le_of_ble_eq_true rfl⟩) ⟨zCW, va_recv hK hP (ci := 3) (q0 := p_14) rfl hp_14, fun U hU hW => ⟨rfl, by rw [hU], by rw [hU]; exact hP, hE.warm hW, hD.weaken (fun _ _ _ _ => trivial)⟩⟩ rfl rfl hl.1 rfl (lv_room (Nat.le_of_ble_eq_true rfl)) dX9_addGuards_75 ⟨Nat.le_of_ble_eq_true rfl, Nat.le_of_ble_eq_true rfl⟩) hS (fun q _ h => hFc q h) hFc (fun S15 t H locs ht hvm h hB hz1 hk1 hS => ?_)
              obtain ⟨hP, hD1, hN1⟩ := hB
              rw [ht] at hP
              have hD := hD1.weaken (fun k q _ hq => hFc q.1 hq)
              have hN := hN1.trans hN
              refine lv_iinc (v := x7_4 + 1) (lv' := [(4, .int (x7_4 + 1)), (5, .int 1), (0, .ref (q 15 0)), (1, .ref (q 28 y7_1)), (3, .int x7_3)]) hx hb dX9_addGuards_78 hl (k := 4) rfl rfl (by decide) rfl (fun ls hl => ?_)
              refine lv_goto (tgt := 7) hx hb dX9_addGuards_81 (by decide) ?_
              exact ih_7  S15 y7_1 x7_3 (x7_4 + 1) H locs _ h hP hD hS hN (lv_sub hl [2, 3, 4, 0] rfl)
    obtain ⟨n_7, h⟩ := h
    exact LP_7 n_7 S i1 a3 (if a2 < 0 then 0 else a2) H locs _ h hP hD hS hN (lv_sub hl [1, 2, 4, 0] rfl)
  exact key _ _ hP va_S.rf

def wl_X9_knowArgsAlone_23 (K_53 : CST → Prop) (Post : CST → Prop) : Nat → CST → Nat → Int32 → Prop
  | 0, _, _, _ => False
  | n_23 + 1, S_23, y23_1, x23_2 => ((3 ≤ x23_2) → ((K_53 S_23 ))) ∧ ((¬ (3 ≤ x23_2)) → (vp_in x23_2 11 ∧ (((((cv S_23 190 0 (x23_2 : Int32).toNatClampNeg) : Int32) = 0) → (wl_X9_knowArgsAlone_23 K_53 Post n_23 S_23 y23_1 (x23_2 + 1))) ∧ ((¬ (((cv S_23 190 0 (x23_2 : Int32).toNatClampNeg) : Int32) = 0)) → (cin S_23 28 y23_1 ∧ (wp_X5_valueOf S_23 y23_1 x23_2 (fun r6 => wp_X9_know S_23 x23_2 r6 (fun S8 => wl_X9_knowArgsAlone_23 K_53 Post n_23 S8 y23_1 (x23_2 + 1)))))))))
def wl_X9_knowArgsAlone_2 (K_21 : CST → Nat → Prop) (Post : CST → Prop) : Nat → CST → Nat → Int32 → Prop
  | 0, _, _, _ => False
  | n_2 + 1, S_2, y2_1, x2_2 => ((15 ≤ x2_2) → ((K_21 S_2 y2_1))) ∧ ((¬ (15 ≤ x2_2)) → (vp_in x2_2 15 ∧ (∀ S12 : CST, S12 = cs S_2 160 0 (upd (cv S_2 160 0) (x2_2 : Int32).toNatClampNeg (vp_nar .boolean 0)) → (wl_X9_knowArgsAlone_2 K_21 Post n_2 S12 y2_1 (x2_2 + 1)))))
def wp_X9_knowArgsAlone (S : CST) (i1 : Nat) (Post : CST → Prop) : Prop :=
  ∃ n_2, wl_X9_knowArgsAlone_2 (fun S_21 y21_1 => ∃ n_23, wl_X9_knowArgsAlone_23 (fun S_53 => Post S_53) Post n_23 S_21 y21_1 0) Post n_2 S i1 0
def zw_zd_X9_knowArgsAlone_w0 : List Cond := [.fieldLink RX9 22 "TemplateForge$Smith" "assumed" "[Z", .code yX5_valueOf cX5_valueOf 2 (some .int), .fieldLink RX5 9 "TemplateForge$Heat" "first" "[I", .methodLink RX9 118 yX5_valueOf, .instanceMethod yX5_valueOf, .selects RX5 yX5_valueOf yX5_valueOf, .initialized RX5, .code yX9_know cX9_know 3 none, .fieldLink RX9 9 "TemplateForge$Smith" "known" "[Z", .fieldLink RX9 15 "TemplateForge$Smith" "worth" "[I", .methodLink RX9 125 yX9_know, .instanceMethod yX9_know, .selects RX9 yX9_know yX9_know, .initialized RX9]
def zw_zd_X9_knowArgsAlone : List Cond := .code yX9_knowArgsAlone cX9_knowArgsAlone 3 none :: ((zw_zd_X9_knowArgsAlone_w0) ++ wsX90 ++ wsX50)
set_option maxRecDepth 100000 in
theorem zg_zd_X9_knowArgsAlone_zd_X5_valueOf_118_a : GoodIn zw_zd_X9_knowArgsAlone [.methodLink RX9 118 yX5_valueOf, .instanceMethod yX5_valueOf, .selects RX5 yX5_valueOf yX5_valueOf, .initialized RX5] := goodIn_r _ [4, 5, 6, 7] rfl (by decide +kernel)
set_option maxRecDepth 100000 in
theorem zg_zd_X9_knowArgsAlone_zd_X5_valueOf_118_c : GoodIn zw_zd_X9_knowArgsAlone [.code yX5_valueOf cX5_valueOf 2 (some .int)] := goodIn_r _ [2] rfl (by decide +kernel)
set_option maxRecDepth 100000 in
theorem zg_zd_X9_knowArgsAlone_zd_X5_valueOf_118_0 : GoodIn zw_zd_X9_knowArgsAlone zw_zd_X5_valueOf_w0 := goodIn_r _ [3] rfl (by decide +kernel)
theorem zg_zd_X9_knowArgsAlone_zd_X5_valueOf_118 : GoodIn zw_zd_X9_knowArgsAlone (wsV RX9 118 RX5 yX5_valueOf zw_zd_X5_valueOf) := goodIn_app zg_zd_X9_knowArgsAlone_zd_X5_valueOf_118_a (goodIn_ca (a := (zw_zd_X5_valueOf_w0)) (show GoodIn zw_zd_X9_knowArgsAlone (.code yX5_valueOf cX5_valueOf 2 (some .int) :: (zw_zd_X5_valueOf_w0)) from goodIn_app zg_zd_X9_knowArgsAlone_zd_X5_valueOf_118_c (zg_zd_X9_knowArgsAlone_zd_X5_valueOf_118_0)) (fun w h => ⟨(fun _ h => List.mem_cons_of_mem _ (List.mem_append_right _ h)) w h, good_of_word (List.all_eq_true.mp zgw_X5 w h)⟩))
set_option maxRecDepth 100000 in
theorem zg_zd_X9_knowArgsAlone_zd_X9_know_125_a : GoodIn zw_zd_X9_knowArgsAlone [.methodLink RX9 125 yX9_know, .instanceMethod yX9_know, .selects RX9 yX9_know yX9_know, .initialized RX9] := goodIn_r _ [11, 12, 13, 14] rfl (by decide +kernel)
set_option maxRecDepth 100000 in
theorem zg_zd_X9_knowArgsAlone_zd_X9_know_125_c : GoodIn zw_zd_X9_knowArgsAlone [.code yX9_know cX9_know 3 none] := goodIn_r _ [8] rfl (by decide +kernel)
set_option maxRecDepth 100000 in
theorem zg_zd_X9_knowArgsAlone_zd_X9_know_125_0 : GoodIn zw_zd_X9_knowArgsAlone zw_zd_X9_know_w0 := goodIn_r _ [9, 10] rfl (by decide +kernel)
theorem zg_zd_X9_knowArgsAlone_zd_X9_know_125 : GoodIn zw_zd_X9_knowArgsAlone (wsV RX9 125 RX9 yX9_know zw_zd_X9_know) := goodIn_app zg_zd_X9_knowArgsAlone_zd_X9_know_125_a (goodIn_ca (a := (zw_zd_X9_know_w0)) (show GoodIn zw_zd_X9_knowArgsAlone (.code yX9_know cX9_know 3 none :: (zw_zd_X9_know_w0)) from goodIn_app zg_zd_X9_knowArgsAlone_zd_X9_know_125_c (zg_zd_X9_knowArgsAlone_zd_X9_know_125_0)) (fun w h => ⟨(fun _ h => List.mem_cons_of_mem _ (List.mem_append_left _ (List.mem_append_right _ h))) w h, good_of_word (List.all_eq_true.mp zgw_X9 w h)⟩))
set_option maxHeartbeats 16000000 in
set_option maxRecDepth 100000 in
theorem zd_X9_knowArgsAlone (l : Launch) (D : va_G) (cI cZ cP cF : Nat) (q : Nat → Nat → Nat) (S : CST) (i1 : Nat) (sz : Nat) (Post : CST → Prop) (h : wp_X9_knowArgsAlone S i1 Post) : Met l yX9_knowArgsAlone zw_zd_X9_knowArgsAlone ({ frames := 1, cells := 0, slots := 0, locals := 22 }) (va_Pc [.ref (q 15 0), .ref (q 28 i1)] (fun U => U.heap.size = sz ∧ va_P D vwCl (cW cI cZ cP cF q S) U.heap ∧ zF D cI cZ cP cF U ∧ va_D (fun _ => True) (cW cI cZ cP cF q S))) (va_Qv (fun S' => Post S') (fun (S' : CST) t => va_P D vwCl (cW cI cZ cP cF q S') t.heap ∧ va_D (va_A (cW cI cZ cP cF q S) sz) (cW cI cZ cP cF q S') ∧ S'.2 = S.2) (va_A (cW cI cZ cP cF q S) sz)) 0 0 (va_A (cW cI cZ cP cF q S) sz) := by
  unfold wp_X9_knowArgsAlone at h
  refine Met.ofW (cc := cX9_knowArgsAlone) (maxL := 3) (ret := none) (by decide) rfl ?_
  intro p e s m args below meth c s₁ B hml hv
  obtain ⟨rfl, hsz, hP, hE, hD0⟩ := hv
  have hx := B.exec
  have hb := B.bytes
  have hr := B.returns
  have hts := atoms_spec (ws := zw_zd_X9_knowArgsAlone) B.pre
  have hown : s.vm.findClass RX9 = some m.cls := findClass_of_methodNamed B.named
  have hlocks := B.notSynchronized
  have hK := hE.k
  subst hsz
  have hD := hD0.self (sz := s.heap.size)
  generalize hAe : va_A (cW cI cZ cP cF q S) s.heap.size = A at hD ⊢
  have hA : ∀ q : Nat, s.heap.size ≤ q → A q := fun q h => by rw [← hAe]; exact Or.inr h
  have hN : S.2 = S.2 := rfl
  have hl := lv_entry ([.ref (q 15 0), .ref (q 28 i1)]) (n := 3) (Nat.le_of_ble_eq_true rfl)
  rw [lg_entry_eq]
  generalize (lg_sl ([.ref (q 15 0), .ref (q 28 i1)]) ++ List.replicate (3 - (lg_sl ([.ref (q 15 0), .ref (q 28 i1)])).length) Slot.unset).toArray = ls at hl ⊢
  have hl : lv_has ls 3 [(0, .ref (q 15 0)), (1, .ref (q 28 i1))] := hl
  have key : ∀ (H : Heap) (locs : List Loc), va_P D vwCl (cW cI cZ cP cF q S) H → va_S A s.heap H locs → W p l e (headSpec zw_zd_X9_knowArgsAlone ({ frames := 1, cells := 0, slots := 0, locals := 22 })).room s m ([.ref (q 15 0), .ref (q 28 i1)] : List Value).toArray below meth c H locs 0 0 (MQ below (va_Qv (fun S' => Post S') (fun (S' : CST) t => va_P D vwCl (cW cI cZ cP cF q S') t.heap ∧ va_D A (cW cI cZ cP cF q S') ∧ S'.2 = S.2) A) ([.ref (q 15 0), .ref (q 28 i1)] : List Value).toArray s 0 0 A) (F0 m 0 ls []) := by
    intro H locs hP hS
    refine lv_iconst (v := 0) hx hb dX9_knowArgsAlone_0 (by decide) ?_
    refine lv_istore_n (lv' := [(2, .int 0), (0, .ref (q 15 0)), (1, .ref (q 28 i1))]) hx hb dX9_knowArgsAlone_1 rfl hl (by decide) rfl (fun ls hl => ?_)
    have EX_2_21 : ∀ (S_21 : CST) (y21_1 : Nat) (H : Heap) (locs : List Loc) (ls : Array Slot), (∃ n_23, wl_X9_knowArgsAlone_23 (fun S_53 => Post S_53) Post n_23 S_21 y21_1 0) → va_P D vwCl (cW cI cZ cP cF q S_21) H → va_D A (cW cI cZ cP cF q S_21) → va_S A s.heap H locs → S_21.2 = S.2 → lv_has ls 3 [(0, .ref (q 15 0)), (1, .ref (q 28 y21_1))] → W p l e (headSpec zw_zd_X9_knowArgsAlone ({ frames := 1, cells := 0, slots := 0, locals := 22 })).room s m ([.ref (q 15 0), .ref (q 28 i1)] : List Value).toArray below meth c H locs 0 0 (MQ below (va_Qv (fun S' => Post S') (fun (S' : CST) t => va_P D vwCl (cW cI cZ cP cF q S') t.heap ∧ va_D A (cW cI cZ cP cF q S') ∧ S'.2 = S.2) A) ([.ref (q 15 0), .ref (q 28 i1)] : List Value).toArray s 0 0 A) (F0 m 21 ls []) := by
      intro S_21 y21_1 H locs ls h hP hD hS hN hl
      refine lv_iconst (v := 0) hx hb dX9_knowArgsAlone_21 (by decide) ?_
      refine lv_istore_n (lv' := [(2, .int 0), (0, .ref (q 15 0)), (1, .ref (q 28 y21_1))]) hx hb dX9_knowArgsAlone_22 rfl hl (by decide) rfl (fun ls hl => ?_)
      have EX_23_53 : ∀ (S_53 : CST) (H : Heap) (locs : List Loc) (ls : Array Slot), (Post S_53) → va_P D vwCl (cW cI cZ cP cF q S_53) H → va_D A (cW cI cZ cP cF q S_53) → va_S A s.heap H locs → S_53.2 = S.2 → lv_has ls 3 [] → W p l e (headSpec zw_zd_X9_knowArgsAlone ({ frames := 1, cells := 0, slots := 0, locals := 22 })).room s m ([.ref (q 15 0), .ref (q 28 i1)] : List Value).toArray below meth c H locs 0 0 (MQ below (va_Qv (fun S' => Post S') (fun (S' : CST) t => va_P D vwCl (cW cI cZ cP cF q S') t.heap ∧ va_D A (cW cI cZ cP cF q S') ∧ S'.2 = S.2) A) ([.ref (q 15 0), .ref (q 28 i1)] : List Value).toArray s 0 0 A) (F0 m 53 ls []) := by
        intro S_53  H locs ls h hP hD hS hN hl
        exact W.vret hx hb hr (fun t ht hW => ⟨⟨S_53, rfl, h, by rw [ht]; exact hP, hD, hN⟩, hS.F ht⟩) hS.2.2 dX9_knowArgsAlone_53
      have LP_23 : ∀ (n_23 : Nat), ∀ (S_23 : CST) (y23_1 : Nat) (x23_2 : Int32) (H : Heap) (locs : List Loc) (ls : Array Slot), wl_X9_knowArgsAlone_23 (fun S_53 => Post S_53) Post n_23 S_23 y23_1 x23_2 → va_P D vwCl (cW cI cZ cP cF q S_23) H → va_D A (cW cI cZ cP cF q S_23) → va_S A s.heap H locs → S_23.2 = S.2 → lv_has ls 3 [(0, .ref (q 15 0)), (1, .ref (q 28 y23_1)), (2, .int x23_2)] → W p l e (headSpec zw_zd_X9_knowArgsAlone ({ frames := 1, cells := 0, slots := 0, locals := 22 })).room s m ([.ref (q 15 0), .ref (q 28 i1)] : List Value).toArray below meth c H locs 0 0 (MQ below (va_Qv (fun S' => Post S') (fun (S' : CST) t => va_P D vwCl (cW cI cZ cP cF q S') t.heap ∧ va_D A (cW cI cZ cP cF q S') ∧ S'.2 = S.2) A) ([.ref (q 15 0), .ref (q 28 i1)] : List Value).toArray s 0 0 A) (F0 m 23 ls []) := by
        intro n_23
        induction n_23 with
        | zero =>
          intro S_23 y23_1 x23_2 H locs ls h hP hD hS hN hl
          exact False.elim h
        | succ n_23 ih_23 =>
          intro S_23 y23_1 x23_2 H locs ls h hP hD hS hN hl
          unfold wl_X9_knowArgsAlone_23 at h
          refine lv_iload_n hx hb dX9_knowArgsAlone_23 rfl (lv_at hl 2 rfl) ?_
          refine lv_iconst (v := 3) hx hb dX9_knowArgsAlone_24 (by decide) ?_
          refine lv_icmp_ge (tgt := 53) hx hb dX9_knowArgsAlone_25 (by decide) (fun c_1 => ?_) (fun c_1 => ?_)
          · have h := h.1 c_1
            exact EX_23_53  S_23  H locs _ h hP hD hS hN (lv_sub hl [] rfl)
          · have h := h.2 c_1
            refine lv_aload_n hx hb dX9_knowArgsAlone_28 rfl (lv_at hl 0 rfl) ?_
            obtain ⟨p_2, hp_2⟩ := cget_15 cI cZ cP cF q S_23
            have hi_2 : cin S_23 15 0 := Or.inl ⟨by decide, rfl⟩
            refine va_get (D := D) (ci := 9) (v := .ref (q 19 0)) (C := RX9) (T := TX9) (N := 5) hx hb hts (fun _ h => List.mem_cons_of_mem _ (List.mem_append_left _ (List.mem_append_right _ h))) hown hK hP p_2 hp_2 rfl 4 (by decide) (hts (.fieldLink RX9 22 "TemplateForge$Smith" "assumed" "[Z") (List.mem_of_getElem? (i := 1) rfl)) (fun _ h9 => h9) rfl dX9_knowArgsAlone_29 ?_
            refine lv_iload_n hx hb dX9_knowArgsAlone_32 rfl (lv_at hl 2 rfl) ?_
            obtain ⟨p_3, hp_3⟩ := cget_19 cI cZ cP cF q S_23
            have hi_3 : cin S_23 19 0 := Or.inl ⟨by decide, rfl⟩
            have hin_3 := h.1
            have h := h.2
            refine va_zald hx hb hK hP p_3 1 hp_3 rfl hin_3 dX9_knowArgsAlone_33 ?_
            refine lv_if_eq (tgt := 47) hx hb dX9_knowArgsAlone_34 (by decide) (fun c_4 => ?_) (fun c_4 => ?_)
            · have h := h.1 c_4
              refine lv_iinc (v := x23_2 + 1) (lv' := [(2, .int (x23_2 + 1)), (0, .ref (q 15 0)), (1, .ref (q 28 y23_1))]) hx hb dX9_knowArgsAlone_47 hl (k := 2) rfl rfl (by decide) rfl (fun ls hl => ?_)
              refine lv_goto (tgt := 23) hx hb dX9_knowArgsAlone_50 (by decide) ?_
              exact ih_23  S_23 y23_1 (x23_2 + 1) H locs _ h hP hD hS hN (lv_sub hl [1, 2, 0] rfl)
            · have h := h.2 c_4
              refine lv_aload_n hx hb dX9_knowArgsAlone_37 rfl (lv_at hl 0 rfl) ?_
              refine lv_iload_n hx hb dX9_knowArgsAlone_38 rfl (lv_at hl 2 rfl) ?_
              refine lv_aload_n hx hb dX9_knowArgsAlone_39 rfl (lv_at hl 1 rfl) ?_
              refine lv_iload_n hx hb dX9_knowArgsAlone_40 rfl (lv_at hl 2 rfl) ?_
              have hi_5 := h.1
              have h := h.2
              obtain ⟨p_5, hp_5⟩ := cget_28 cI cZ cP cF q S_23 hi_5
              refine vp_callSi (va_Run.run (va_runV (As := [.int x23_2]) (rest := [.int x23_2, .ref (q 15 0)]) ⟨hx, hb, hml, hown, hts⟩ (zd_X5_valueOf l D cI cZ cP cF q S_23 y23_1 x23_2  _ h) (cwV 1 hts zg_zd_X9_knowArgsAlone_zd_X5_valueOf_118 rfl rfl rfl (by decide +kernel) ⟨Nat.le_of_ble_eq_true rfl, Nat.le_of_ble_eq_true rfl⟩) ⟨zCR, va_recv hK hP (ci := 5) (q0 := p_5) rfl hp_5, fun U hU hW => ⟨rfl, by rw [hU]; exact hP, hE.warm hW⟩⟩ rfl rfl hl.1 rfl (lv_room (Nat.le_of_ble_eq_true rfl)) dX9_knowArgsAlone_41 ⟨Nat.le_of_ble_eq_true rfl, Nat.le_of_ble_eq_true rfl⟩)) (fun r6 h => ?_)
              obtain ⟨p_7, hp_7⟩ := cget_15 cI cZ cP cF q S_23
              have hi_7 : cin S_23 15 0 := Or.inl ⟨by decide, rfl⟩
              have hFc := zm_free hD hS hA
              refine va_callv (va_runV (As := [.int x23_2, .int r6]) (rest := []) ⟨hx, hb, hml, hown, hts⟩ (zd_X9_know l D cI cZ cP cF q S_23 x23_2 r6 H.size _ h) (cwV 2 hts zg_zd_X9_knowArgsAlone_zd_X9_know_125 rfl rfl rfl (by decide +kernel) ⟨Nat.le_of_ble_eq_true rfl, Nat.le_of_ble_eq_true rfl⟩) ⟨zCW, va_recv hK hP (ci := 9) (q0 := p_7) rfl hp_7, fun U hU hW => ⟨rfl, by rw [hU], by rw [hU]; exact hP, hE.warm hW, hD.weaken (fun _ _ _ _ => trivial)⟩⟩ rfl rfl hl.1 rfl (lv_room (Nat.le_of_ble_eq_true rfl)) dX9_knowArgsAlone_44 ⟨Nat.le_of_ble_eq_true rfl, Nat.le_of_ble_eq_true rfl⟩) hS (fun q _ h => hFc q h) hFc (fun S8 t H locs ht hvm h hB hz1 hk1 hS => ?_)
              obtain ⟨hP, hD1, hN1⟩ := hB
              rw [ht] at hP
              have hD := hD1.weaken (fun k q _ hq => hFc q.1 hq)
              have hN := hN1.trans hN
              refine lv_iinc (v := x23_2 + 1) (lv' := [(2, .int (x23_2 + 1)), (0, .ref (q 15 0)), (1, .ref (q 28 y23_1))]) hx hb dX9_knowArgsAlone_47 hl (k := 2) rfl rfl (by decide) rfl (fun ls hl => ?_)
              refine lv_goto (tgt := 23) hx hb dX9_knowArgsAlone_50 (by decide) ?_
              exact ih_23  S8 y23_1 (x23_2 + 1) H locs _ h hP hD hS hN (lv_sub hl [1, 2, 0] rfl)
      obtain ⟨n_23, h⟩ := h
      exact LP_23 n_23 S_21 y21_1 0 H locs _ h hP hD hS hN (lv_sub hl [1, 2, 0] rfl)
    have LP_2 : ∀ (n_2 : Nat), ∀ (S_2 : CST) (y2_1 : Nat) (x2_2 : Int32) (H : Heap) (locs : List Loc) (ls : Array Slot), wl_X9_knowArgsAlone_2 (fun S_21 y21_1 => ∃ n_23, wl_X9_knowArgsAlone_23 (fun S_53 => Post S_53) Post n_23 S_21 y21_1 0) Post n_2 S_2 y2_1 x2_2 → va_P D vwCl (cW cI cZ cP cF q S_2) H → va_D A (cW cI cZ cP cF q S_2) → va_S A s.heap H locs → S_2.2 = S.2 → lv_has ls 3 [(0, .ref (q 15 0)), (1, .ref (q 28 y2_1)), (2, .int x2_2)] → W p l e (headSpec zw_zd_X9_knowArgsAlone ({ frames := 1, cells := 0, slots := 0, locals := 22 })).room s m ([.ref (q 15 0), .ref (q 28 i1)] : List Value).toArray below meth c H locs 0 0 (MQ below (va_Qv (fun S' => Post S') (fun (S' : CST) t => va_P D vwCl (cW cI cZ cP cF q S') t.heap ∧ va_D A (cW cI cZ cP cF q S') ∧ S'.2 = S.2) A) ([.ref (q 15 0), .ref (q 28 i1)] : List Value).toArray s 0 0 A) (F0 m 2 ls []) := by
      intro n_2
      induction n_2 with
      | zero =>
        intro S_2 y2_1 x2_2 H locs ls h hP hD hS hN hl
        exact False.elim h
      | succ n_2 ih_2 =>
        intro S_2 y2_1 x2_2 H locs ls h hP hD hS hN hl
        unfold wl_X9_knowArgsAlone_2 at h
        refine lv_iload_n hx hb dX9_knowArgsAlone_2 rfl (lv_at hl 2 rfl) ?_
        refine lv_bipush (v := 15) hx hb dX9_knowArgsAlone_3 (by decide) ?_
        refine lv_icmp_ge (tgt := 21) hx hb dX9_knowArgsAlone_5 (by decide) (fun c_9 => ?_) (fun c_9 => ?_)
        · have h := h.1 c_9
          exact EX_2_21  S_2 y2_1 H locs _ h hP hD hS hN (lv_sub hl [0, 1] rfl)
        · have h := h.2 c_9
          refine lv_aload_n hx hb dX9_knowArgsAlone_8 rfl (lv_at hl 0 rfl) ?_
          obtain ⟨p_10, hp_10⟩ := cget_15 cI cZ cP cF q S_2
          have hi_10 : cin S_2 15 0 := Or.inl ⟨by decide, rfl⟩
          refine va_get (D := D) (ci := 9) (v := .ref (q 16 0)) (C := RX9) (T := TX9) (N := 5) hx hb hts (fun _ h => List.mem_cons_of_mem _ (List.mem_append_left _ (List.mem_append_right _ h))) hown hK hP p_10 hp_10 rfl 1 (by decide) (hts (.fieldLink RX9 9 "TemplateForge$Smith" "known" "[Z") (List.mem_of_getElem? (i := 9) rfl)) (fun _ h9 => h9) rfl dX9_knowArgsAlone_9 ?_
          refine lv_iload_n hx hb dX9_knowArgsAlone_12 rfl (lv_at hl 2 rfl) ?_
          refine lv_iconst (v := 0) hx hb dX9_knowArgsAlone_13 (by decide) ?_
          obtain ⟨p_11, hp_11⟩ := cget_16 cI cZ cP cF q S_2
          have hi_11 : cin S_2 16 0 := Or.inl ⟨by decide, rfl⟩
          have hin_11 := h.1
          have h := h.2
          have hD0_11 := hD
          refine va_zast hx hb hK hP hD hS p_11 1 hp_11 rfl hin_11 dX9_knowArgsAlone_14 (fun H locs hP hD hS => ?_)
          obtain ⟨S12, eS12⟩ : ∃ z, z = cs S_2 160 0 (upd (cv S_2 160 0) (x2_2 : Int32).toNatClampNeg (vp_nar .boolean 0)) := ⟨_, rfl⟩
          have hP : va_P D vwCl (cW cI cZ cP cF q S12) H := by rw [eS12, ← cW_put (k := 160) (κ := 16) (i := 0) (g := (upd (cv S_2 160 0) (x2_2 : Int32).toNatClampNeg (vp_nar .boolean 0))) rfl hD0_11 hp_11 hi_11, cput_160]; exact hP
          have hD : va_D A (cW cI cZ cP cF q S12) := by rw [eS12, ← cW_put (k := 160) (κ := 16) (i := 0) (g := (upd (cv S_2 160 0) (x2_2 : Int32).toNatClampNeg (vp_nar .boolean 0))) rfl hD0_11 hp_11 hi_11, cput_160]; exact hD
          have hN : S12.2 = S.2 := by rw [eS12]; exact hN
          have h := h S12 eS12
          refine lv_iinc (v := x2_2 + 1) (lv' := [(2, .int (x2_2 + 1)), (0, .ref (q 15 0)), (1, .ref (q 28 y2_1))]) hx hb dX9_knowArgsAlone_15 hl (k := 2) rfl rfl (by decide) rfl (fun ls hl => ?_)
          refine lv_goto (tgt := 2) hx hb dX9_knowArgsAlone_18 (by decide) ?_
          exact ih_2  S12 y2_1 (x2_2 + 1) H locs _ h hP hD hS hN (lv_sub hl [1, 2, 0] rfl)
    obtain ⟨n_2, h⟩ := h
    exact LP_2 n_2 S i1 0 H locs _ h hP hD hS hN (lv_sub hl [1, 2, 0] rfl)
  exact key _ _ hP va_S.rf

def wp_X9_isWaySure (S : CST) (a1 : Int32) (a2 : Int32) (a3 : Int32) (Post : CST → Int32 → Prop) : Prop :=
  wp_X9_isKnown S a2 (fun r2 => ((¬ ((r2 : Int32) = 0)) → (wp_X9_forget S a2 (fun S5 => wp_X9_worthOf S5 a2 (fun r7 => ((¬ ((r7 : Int32) = 0)) → (Post S5 1)) ∧ (((r7 : Int32) = 0) → (wp_X9_lay S5 7 14 a3 (fun S10 => wp_X3_add S10 8 a1 0 0 a3 (fun S13 => Post S13 1)))))))) ∧ (((r2 : Int32) = 0) → (wp_X9_lay S 7 14 a3 (fun S15 => Post S15 0))))
def zw_zd_X9_isWaySure_w0 : List Cond := [.code yX9_isKnown cX9_isKnown 2 (some .boolean), .fieldLink RX9 9 "TemplateForge$Smith" "known" "[Z", .methodLink RX9 154 yX9_isKnown, .instanceMethod yX9_isKnown, .selects RX9 yX9_isKnown yX9_isKnown, .initialized RX9, .code yX9_forget cX9_forget 2 none, .methodLink RX9 140 yX9_forget, .instanceMethod yX9_forget, .selects RX9 yX9_forget yX9_forget, .code yX9_worthOf cX9_worthOf 2 (some .int), .fieldLink RX9 15 "TemplateForge$Smith" "worth" "[I", .methodLink RX9 157 yX9_worthOf, .instanceMethod yX9_worthOf, .selects RX9 yX9_worthOf yX9_worthOf, .code yX9_lay cX9_lay 5 none]
def zw_zd_X9_isWaySure_w1 : List Cond := [.methodLink RX9 112 Lib.Math.max.name, .static Lib.Math.max.name, .initialized "java/lang/Math", .code Lib.Math.max.name Lib.Math.max.code 2 (some .int), .fieldLink RX9 25 "TemplateForge$Smith" "draft" "LTemplateForge$Draft;", .code yX3_add cX3_add 7 none, .fieldLink RX3 18 "TemplateForge$Draft" "parts" "I", .fieldLink RX3 9 "TemplateForge$Draft" "cells" "[I", .methodLink RX9 121 yX3_add, .instanceMethod yX3_add, .selects RX3 yX3_add yX3_add, .initialized RX3, .methodLink RX9 66 yX9_lay, .instanceMethod yX9_lay, .selects RX9 yX9_lay yX9_lay]
def zw_zd_X9_isWaySure : List Cond := .code yX9_isWaySure cX9_isWaySure 4 (some .boolean) :: ((zw_zd_X9_isWaySure_w0 ++ (zw_zd_X9_isWaySure_w1)) ++ wsX90 ++ wsX30)
set_option maxRecDepth 100000 in
theorem zg_zd_X9_isWaySure_zd_X9_isKnown_154_a : GoodIn zw_zd_X9_isWaySure [.methodLink RX9 154 yX9_isKnown, .instanceMethod yX9_isKnown, .selects RX9 yX9_isKnown yX9_isKnown, .initialized RX9] := goodIn_r _ [3, 4, 5, 6] rfl (by decide +kernel)
set_option maxRecDepth 100000 in
theorem zg_zd_X9_isWaySure_zd_X9_isKnown_154_c : GoodIn zw_zd_X9_isWaySure [.code yX9_isKnown cX9_isKnown 2 (some .boolean)] := goodIn_r _ [1] rfl (by decide +kernel)
set_option maxRecDepth 100000 in
theorem zg_zd_X9_isWaySure_zd_X9_isKnown_154_0 : GoodIn zw_zd_X9_isWaySure zw_zd_X9_isKnown_w0 := goodIn_r _ [2] rfl (by decide +kernel)
theorem zg_zd_X9_isWaySure_zd_X9_isKnown_154 : GoodIn zw_zd_X9_isWaySure (wsV RX9 154 RX9 yX9_isKnown zw_zd_X9_isKnown) := goodIn_app zg_zd_X9_isWaySure_zd_X9_isKnown_154_a (goodIn_ca (a := (zw_zd_X9_isKnown_w0)) (show GoodIn zw_zd_X9_isWaySure (.code yX9_isKnown cX9_isKnown 2 (some .boolean) :: (zw_zd_X9_isKnown_w0)) from goodIn_app zg_zd_X9_isWaySure_zd_X9_isKnown_154_c (zg_zd_X9_isWaySure_zd_X9_isKnown_154_0)) (fun w h => ⟨(fun _ h => List.mem_cons_of_mem _ (List.mem_append_left _ (List.mem_append_right _ h))) w h, good_of_word (List.all_eq_true.mp zgw_X9 w h)⟩))
set_option maxRecDepth 100000 in
theorem zg_zd_X9_isWaySure_zd_X9_forget_140_a : GoodIn zw_zd_X9_isWaySure [.methodLink RX9 140 yX9_forget, .instanceMethod yX9_forget, .selects RX9 yX9_forget yX9_forget, .initialized RX9] := goodIn_r _ [8, 9, 10, 6] rfl (by decide +kernel)
set_option maxRecDepth 100000 in
theorem zg_zd_X9_isWaySure_zd_X9_forget_140_c : GoodIn zw_zd_X9_isWaySure [.code yX9_forget cX9_forget 2 none] := goodIn_r _ [7] rfl (by decide +kernel)
set_option maxRecDepth 100000 in
theorem zg_zd_X9_isWaySure_zd_X9_forget_140_0 : GoodIn zw_zd_X9_isWaySure zw_zd_X9_forget_w0 := goodIn_r _ [2] rfl (by decide +kernel)
theorem zg_zd_X9_isWaySure_zd_X9_forget_140 : GoodIn zw_zd_X9_isWaySure (wsV RX9 140 RX9 yX9_forget zw_zd_X9_forget) := goodIn_app zg_zd_X9_isWaySure_zd_X9_forget_140_a (goodIn_ca (a := (zw_zd_X9_forget_w0)) (show GoodIn zw_zd_X9_isWaySure (.code yX9_forget cX9_forget 2 none :: (zw_zd_X9_forget_w0)) from goodIn_app zg_zd_X9_isWaySure_zd_X9_forget_140_c (zg_zd_X9_isWaySure_zd_X9_forget_140_0)) (fun w h => ⟨(fun _ h => List.mem_cons_of_mem _ (List.mem_append_left _ (List.mem_append_right _ h))) w h, good_of_word (List.all_eq_true.mp zgw_X9 w h)⟩))
set_option maxRecDepth 100000 in
theorem zg_zd_X9_isWaySure_zd_X9_worthOf_157_a : GoodIn zw_zd_X9_isWaySure [.methodLink RX9 157 yX9_worthOf, .instanceMethod yX9_worthOf, .selects RX9 yX9_worthOf yX9_worthOf, .initialized RX9] := goodIn_r _ [13, 14, 15, 6] rfl (by decide +kernel)
set_option maxRecDepth 100000 in
theorem zg_zd_X9_isWaySure_zd_X9_worthOf_157_c : GoodIn zw_zd_X9_isWaySure [.code yX9_worthOf cX9_worthOf 2 (some .int)] := goodIn_r _ [11] rfl (by decide +kernel)
set_option maxRecDepth 100000 in
theorem zg_zd_X9_isWaySure_zd_X9_worthOf_157_0 : GoodIn zw_zd_X9_isWaySure zw_zd_X9_worthOf_w0 := goodIn_r _ [12] rfl (by decide +kernel)
theorem zg_zd_X9_isWaySure_zd_X9_worthOf_157 : GoodIn zw_zd_X9_isWaySure (wsV RX9 157 RX9 yX9_worthOf zw_zd_X9_worthOf) := goodIn_app zg_zd_X9_isWaySure_zd_X9_worthOf_157_a (goodIn_ca (a := (zw_zd_X9_worthOf_w0)) (show GoodIn zw_zd_X9_isWaySure (.code yX9_worthOf cX9_worthOf 2 (some .int) :: (zw_zd_X9_worthOf_w0)) from goodIn_app zg_zd_X9_isWaySure_zd_X9_worthOf_157_c (zg_zd_X9_isWaySure_zd_X9_worthOf_157_0)) (fun w h => ⟨(fun _ h => List.mem_cons_of_mem _ (List.mem_append_left _ (List.mem_append_right _ h))) w h, good_of_word (List.all_eq_true.mp zgw_X9 w h)⟩))
set_option maxRecDepth 100000 in
theorem zg_zd_X9_isWaySure_zd_X9_lay_66_a : GoodIn zw_zd_X9_isWaySure [.methodLink RX9 66 yX9_lay, .instanceMethod yX9_lay, .selects RX9 yX9_lay yX9_lay, .initialized RX9] := goodIn_r _ [29, 30, 31, 6] rfl (by decide +kernel)
set_option maxRecDepth 100000 in
theorem zg_zd_X9_isWaySure_zd_X9_lay_66_c : GoodIn zw_zd_X9_isWaySure [.code yX9_lay cX9_lay 5 none] := goodIn_r _ [16] rfl (by decide +kernel)
set_option maxRecDepth 100000 in
theorem zg_zd_X9_isWaySure_zd_X9_lay_66_0 : GoodIn zw_zd_X9_isWaySure zw_zd_X9_lay_w0 := goodIn_r _ [17, 18, 19, 20, 2, 21, 12, 22, 23, 24, 25, 26, 27, 28] rfl (by decide +kernel)
theorem zg_zd_X9_isWaySure_zd_X9_lay_66 : GoodIn zw_zd_X9_isWaySure (wsV RX9 66 RX9 yX9_lay zw_zd_X9_lay) := goodIn_app zg_zd_X9_isWaySure_zd_X9_lay_66_a (goodIn_ca (a := ((zw_zd_X9_lay_w0) ++ wsX90)) (goodIn_ca (a := (zw_zd_X9_lay_w0)) (show GoodIn zw_zd_X9_isWaySure (.code yX9_lay cX9_lay 5 none :: (zw_zd_X9_lay_w0)) from goodIn_app zg_zd_X9_isWaySure_zd_X9_lay_66_c (zg_zd_X9_isWaySure_zd_X9_lay_66_0)) (fun w h => ⟨(fun _ h => List.mem_cons_of_mem _ (List.mem_append_left _ (List.mem_append_right _ h))) w h, good_of_word (List.all_eq_true.mp zgw_X9 w h)⟩)) (fun w h => ⟨(fun _ h => List.mem_cons_of_mem _ (List.mem_append_right _ h)) w h, good_of_word (List.all_eq_true.mp zgw_X3 w h)⟩))
set_option maxRecDepth 100000 in
theorem zg_zd_X9_isWaySure_zd_X3_add_121_a : GoodIn zw_zd_X9_isWaySure [.methodLink RX9 121 yX3_add, .instanceMethod yX3_add, .selects RX3 yX3_add yX3_add, .initialized RX3] := goodIn_r _ [25, 26, 27, 28] rfl (by decide +kernel)
set_option maxRecDepth 100000 in
theorem zg_zd_X9_isWaySure_zd_X3_add_121_c : GoodIn zw_zd_X9_isWaySure [.code yX3_add cX3_add 7 none] := goodIn_r _ [22] rfl (by decide +kernel)
set_option maxRecDepth 100000 in
theorem zg_zd_X9_isWaySure_zd_X3_add_121_0 : GoodIn zw_zd_X9_isWaySure zw_zd_X3_add_w0 := goodIn_r _ [23, 24] rfl (by decide +kernel)
theorem zg_zd_X9_isWaySure_zd_X3_add_121 : GoodIn zw_zd_X9_isWaySure (wsV RX9 121 RX3 yX3_add zw_zd_X3_add) := goodIn_app zg_zd_X9_isWaySure_zd_X3_add_121_a (goodIn_ca (a := (zw_zd_X3_add_w0)) (show GoodIn zw_zd_X9_isWaySure (.code yX3_add cX3_add 7 none :: (zw_zd_X3_add_w0)) from goodIn_app zg_zd_X9_isWaySure_zd_X3_add_121_c (zg_zd_X9_isWaySure_zd_X3_add_121_0)) (fun w h => ⟨(fun _ h => List.mem_cons_of_mem _ (List.mem_append_right _ h)) w h, good_of_word (List.all_eq_true.mp zgw_X3 w h)⟩))
set_option maxHeartbeats 16000000 in
set_option maxRecDepth 100000 in
theorem zd_X9_isWaySure (l : Launch) (D : va_G) (cI cZ cP cF : Nat) (q : Nat → Nat → Nat) (S : CST) (a1 : Int32) (a2 : Int32) (a3 : Int32) (sz : Nat) (Post : CST → Int32 → Prop) (h : wp_X9_isWaySure S a1 a2 a3 Post) : Met l yX9_isWaySure zw_zd_X9_isWaySure ({ frames := 2, cells := 0, slots := 0, locals := 54 }) (va_Pc [.ref (q 15 0), .int a1, .int a2, .int a3] (fun U => U.heap.size = sz ∧ va_P D vwCl (cW cI cZ cP cF q S) U.heap ∧ zF D cI cZ cP cF U ∧ va_D (fun _ => True) (cW cI cZ cP cF q S))) (va_Qi (fun r S' => Post S' r) (fun (S' : CST) t => va_P D vwCl (cW cI cZ cP cF q S') t.heap ∧ va_D (va_A (cW cI cZ cP cF q S) sz) (cW cI cZ cP cF q S') ∧ S'.2 = S.2) (va_A (cW cI cZ cP cF q S) sz)) 0 0 (va_A (cW cI cZ cP cF q S) sz) := by
  unfold wp_X9_isWaySure at h
  refine Met.ofW (cc := cX9_isWaySure) (maxL := 4) (ret := (some .boolean)) (by decide) rfl ?_
  intro p e s m args below meth c s₁ B hml hv
  obtain ⟨rfl, hsz, hP, hE, hD0⟩ := hv
  have hx := B.exec
  have hb := B.bytes
  have hr := B.returns
  have hts := atoms_spec (ws := zw_zd_X9_isWaySure) B.pre
  have hown : s.vm.findClass RX9 = some m.cls := findClass_of_methodNamed B.named
  have hlocks := B.notSynchronized
  have hK := hE.k
  subst hsz
  have hD := hD0.self (sz := s.heap.size)
  generalize hAe : va_A (cW cI cZ cP cF q S) s.heap.size = A at hD ⊢
  have hA : ∀ q : Nat, s.heap.size ≤ q → A q := fun q h => by rw [← hAe]; exact Or.inr h
  have hN : S.2 = S.2 := rfl
  have hl := lv_entry ([.ref (q 15 0), .int a1, .int a2, .int a3]) (n := 4) (Nat.le_of_ble_eq_true rfl)
  rw [lg_entry_eq]
  generalize (lg_sl ([.ref (q 15 0), .int a1, .int a2, .int a3]) ++ List.replicate (4 - (lg_sl ([.ref (q 15 0), .int a1, .int a2, .int a3])).length) Slot.unset).toArray = ls at hl ⊢
  have hl : lv_has ls 4 [(0, .ref (q 15 0)), (1, .int a1), (2, .int a2), (3, .int a3)] := hl
  have key : ∀ (H : Heap) (locs : List Loc), va_P D vwCl (cW cI cZ cP cF q S) H → va_S A s.heap H locs → W p l e (headSpec zw_zd_X9_isWaySure ({ frames := 2, cells := 0, slots := 0, locals := 54 })).room s m ([.ref (q 15 0), .int a1, .int a2, .int a3] : List Value).toArray below meth c H locs 0 0 (MQ below (va_Qi (fun r S' => Post S' r) (fun (S' : CST) t => va_P D vwCl (cW cI cZ cP cF q S') t.heap ∧ va_D A (cW cI cZ cP cF q S') ∧ S'.2 = S.2) A) ([.ref (q 15 0), .int a1, .int a2, .int a3] : List Value).toArray s 0 0 A) (F0 m 0 ls []) := by
    intro H locs hP hS
    refine lv_aload_n hx hb dX9_isWaySure_0 rfl (lv_at hl 0 rfl) ?_
    refine lv_iload_n hx hb dX9_isWaySure_1 rfl (lv_at hl 2 rfl) ?_
    obtain ⟨p_1, hp_1⟩ := cget_15 cI cZ cP cF q S
    have hi_1 : cin S 15 0 := Or.inl ⟨by decide, rfl⟩
    refine vp_callSi (va_Run.run (va_runV (As := [.int a2]) (rest := []) ⟨hx, hb, hml, hown, hts⟩ (zd_X9_isKnown l D cI cZ cP cF q S a2  _ h) (cwV 1 hts zg_zd_X9_isWaySure_zd_X9_isKnown_154 rfl rfl rfl (by decide +kernel) ⟨Nat.le_of_ble_eq_true rfl, Nat.le_of_ble_eq_true rfl⟩) ⟨zCR, va_recv hK hP (ci := 9) (q0 := p_1) rfl hp_1, fun U hU hW => ⟨rfl, by rw [hU]; exact hP, hE.warm hW⟩⟩ rfl rfl hl.1 rfl (lv_room (Nat.le_of_ble_eq_true rfl)) dX9_isWaySure_2 ⟨Nat.le_of_ble_eq_true rfl, Nat.le_of_ble_eq_true rfl⟩)) (fun r2 h => ?_)
    refine lv_if_ne (tgt := 19) hx hb dX9_isWaySure_5 (by decide) (fun c_3 => ?_) (fun c_3 => ?_)
    · have h := h.1 c_3
      refine lv_aload_n hx hb dX9_isWaySure_19 rfl (lv_at hl 0 rfl) ?_
      refine lv_iload_n hx hb dX9_isWaySure_20 rfl (lv_at hl 2 rfl) ?_
      obtain ⟨p_4, hp_4⟩ := cget_15 cI cZ cP cF q S
      have hi_4 : cin S 15 0 := Or.inl ⟨by decide, rfl⟩
      have hFc := zm_free hD hS hA
      refine va_callv (va_runV (As := [.int a2]) (rest := []) ⟨hx, hb, hml, hown, hts⟩ (zd_X9_forget l D cI cZ cP cF q S a2 H.size _ h) (cwV 1 hts zg_zd_X9_isWaySure_zd_X9_forget_140 rfl rfl rfl (by decide +kernel) ⟨Nat.le_of_ble_eq_true rfl, Nat.le_of_ble_eq_true rfl⟩) ⟨zCW, va_recv hK hP (ci := 9) (q0 := p_4) rfl hp_4, fun U hU hW => ⟨rfl, by rw [hU], by rw [hU]; exact hP, hE.warm hW, hD.weaken (fun _ _ _ _ => trivial)⟩⟩ rfl rfl hl.1 rfl (lv_room (Nat.le_of_ble_eq_true rfl)) dX9_isWaySure_21 ⟨Nat.le_of_ble_eq_true rfl, Nat.le_of_ble_eq_true rfl⟩) hS (fun q _ h => hFc q h) hFc (fun S5 t H locs ht hvm h hB hz1 hk1 hS => ?_)
      obtain ⟨hP, hD1, hN1⟩ := hB
      rw [ht] at hP
      have hD := hD1.weaken (fun k q _ hq => hFc q.1 hq)
      have hN := hN1.trans hN
      refine lv_aload_n hx hb dX9_isWaySure_24 rfl (lv_at hl 0 rfl) ?_
      refine lv_iload_n hx hb dX9_isWaySure_25 rfl (lv_at hl 2 rfl) ?_
      obtain ⟨p_6, hp_6⟩ := cget_15 cI cZ cP cF q S5
      have hi_6 : cin S5 15 0 := Or.inl ⟨by decide, rfl⟩
      refine vp_callSi (va_Run.run (va_runV (As := [.int a2]) (rest := []) ⟨hx, hb, hml, hown, hts⟩ (zd_X9_worthOf l D cI cZ cP cF q S5 a2  _ h) (cwV 1 hts zg_zd_X9_isWaySure_zd_X9_worthOf_157 rfl rfl rfl (by decide +kernel) ⟨Nat.le_of_ble_eq_true rfl, Nat.le_of_ble_eq_true rfl⟩) ⟨zCR, va_recv hK hP (ci := 9) (q0 := p_6) rfl hp_6, fun U hU hW => ⟨rfl, by rw [hU]; exact hP, hE.warm hW⟩⟩ rfl rfl hl.1 rfl (lv_room (Nat.le_of_ble_eq_true rfl)) dX9_isWaySure_26 ⟨Nat.le_of_ble_eq_true rfl, Nat.le_of_ble_eq_true rfl⟩)) (fun r7 h => ?_)
      refine lv_if_ne (tgt := 54) hx hb dX9_isWaySure_29 (by decide) (fun c_8 => ?_) (fun c_8 => ?_)
      · have h := h.1 c_8
        refine lv_iconst (v := 1) hx hb dX9_isWaySure_54 (by decide) ?_
        exact W.zret (v := 1) (ty := .boolean) hx hb hr (by decide) (fun t ht hW => ⟨⟨_, S5, rfl, h, by rw [ht]; exact hP, hD, hN⟩, hS.F ht⟩) hS.2.2 dX9_isWaySure_55
      · have h := h.2 c_8
        refine lv_aload_n hx hb dX9_isWaySure_32 rfl (lv_at hl 0 rfl) ?_
        refine lv_bipush (v := 7) hx hb dX9_isWaySure_33 (by decide) ?_
        refine lv_bipush (v := 14) hx hb dX9_isWaySure_35 (by decide) ?_
        refine lv_iload_n hx hb dX9_isWaySure_37 rfl (lv_at hl 3 rfl) ?_
        obtain ⟨p_9, hp_9⟩ := cget_15 cI cZ cP cF q S5
        have hi_9 : cin S5 15 0 := Or.inl ⟨by decide, rfl⟩
        have hFc := zm_free hD hS hA
        refine va_callv (va_runV (As := [.int 7, .int 14, .int a3]) (rest := []) ⟨hx, hb, hml, hown, hts⟩ (zd_X9_lay l D cI cZ cP cF q S5 7 14 a3 H.size _ h) (cwV 3 hts zg_zd_X9_isWaySure_zd_X9_lay_66 rfl rfl rfl (by decide +kernel) ⟨Nat.le_of_ble_eq_true rfl, Nat.le_of_ble_eq_true rfl⟩) ⟨zCW, va_recv hK hP (ci := 9) (q0 := p_9) rfl hp_9, fun U hU hW => ⟨rfl, by rw [hU], by rw [hU]; exact hP, hE.warm hW, hD.weaken (fun _ _ _ _ => trivial)⟩⟩ rfl rfl hl.1 rfl (lv_room (Nat.le_of_ble_eq_true rfl)) dX9_isWaySure_38 ⟨Nat.le_of_ble_eq_true rfl, Nat.le_of_ble_eq_true rfl⟩) hS (fun q _ h => hFc q h) hFc (fun S10 t H locs ht hvm h hB hz1 hk1 hS => ?_)
        obtain ⟨hP, hD1, hN1⟩ := hB
        rw [ht] at hP
        have hD := hD1.weaken (fun k q _ hq => hFc q.1 hq)
        have hN := hN1.trans hN
        refine lv_aload_n hx hb dX9_isWaySure_41 rfl (lv_at hl 0 rfl) ?_
        obtain ⟨p_11, hp_11⟩ := cget_15 cI cZ cP cF q S10
        have hi_11 : cin S10 15 0 := Or.inl ⟨by decide, rfl⟩
        refine va_get (D := D) (ci := 9) (v := .ref (q 7 0)) (C := RX9) (T := TX9) (N := 5) hx hb hts (fun _ h => List.mem_cons_of_mem _ (List.mem_append_left _ (List.mem_append_right _ h))) hown hK hP p_11 hp_11 rfl 0 (by decide) (hts (.fieldLink RX9 25 "TemplateForge$Smith" "draft" "LTemplateForge$Draft;") (List.mem_of_getElem? (i := 21) rfl)) (fun _ h9 => h9) rfl dX9_isWaySure_42 ?_
        refine lv_bipush (v := 8) hx hb dX9_isWaySure_45 (by decide) ?_
        refine lv_iload_n hx hb dX9_isWaySure_47 rfl (lv_at hl 1 rfl) ?_
        refine lv_iconst (v := 0) hx hb dX9_isWaySure_48 (by decide) ?_
        refine lv_iconst (v := 0) hx hb dX9_isWaySure_49 (by decide) ?_
        refine lv_iload_n hx hb dX9_isWaySure_50 rfl (lv_at hl 3 rfl) ?_
        obtain ⟨p_12, hp_12⟩ := cget_7 cI cZ cP cF q S10
        have hi_12 : cin S10 7 0 := Or.inl ⟨by decide, rfl⟩
        have hFc := zm_free hD hS hA
        refine va_callv (va_runV (As := [.int 8, .int a1, .int 0, .int 0, .int a3]) (rest := []) ⟨hx, hb, hml, hown, hts⟩ (zd_X3_add l D cI cZ cP cF q S10 8 a1 0 0 a3 H.size _ h) (cwV 5 hts zg_zd_X9_isWaySure_zd_X3_add_121 rfl rfl rfl (by decide +kernel) ⟨Nat.le_of_ble_eq_true rfl, Nat.le_of_ble_eq_true rfl⟩) ⟨zCW, va_recv hK hP (ci := 3) (q0 := p_12) rfl hp_12, fun U hU hW => ⟨rfl, by rw [hU], by rw [hU]; exact hP, hE.warm hW, hD.weaken (fun _ _ _ _ => trivial)⟩⟩ rfl rfl hl.1 rfl (lv_room (Nat.le_of_ble_eq_true rfl)) dX9_isWaySure_51 ⟨Nat.le_of_ble_eq_true rfl, Nat.le_of_ble_eq_true rfl⟩) hS (fun q _ h => hFc q h) hFc (fun S13 t H locs ht hvm h hB hz1 hk1 hS => ?_)
        obtain ⟨hP, hD1, hN1⟩ := hB
        rw [ht] at hP
        have hD := hD1.weaken (fun k q _ hq => hFc q.1 hq)
        have hN := hN1.trans hN
        refine lv_iconst (v := 1) hx hb dX9_isWaySure_54 (by decide) ?_
        exact W.zret (v := 1) (ty := .boolean) hx hb hr (by decide) (fun t ht hW => ⟨⟨_, S13, rfl, h, by rw [ht]; exact hP, hD, hN⟩, hS.F ht⟩) hS.2.2 dX9_isWaySure_55
    · have h := h.2 c_3
      refine lv_aload_n hx hb dX9_isWaySure_8 rfl (lv_at hl 0 rfl) ?_
      refine lv_bipush (v := 7) hx hb dX9_isWaySure_9 (by decide) ?_
      refine lv_bipush (v := 14) hx hb dX9_isWaySure_11 (by decide) ?_
      refine lv_iload_n hx hb dX9_isWaySure_13 rfl (lv_at hl 3 rfl) ?_
      obtain ⟨p_14, hp_14⟩ := cget_15 cI cZ cP cF q S
      have hi_14 : cin S 15 0 := Or.inl ⟨by decide, rfl⟩
      have hFc := zm_free hD hS hA
      refine va_callv (va_runV (As := [.int 7, .int 14, .int a3]) (rest := []) ⟨hx, hb, hml, hown, hts⟩ (zd_X9_lay l D cI cZ cP cF q S 7 14 a3 H.size _ h) (cwV 3 hts zg_zd_X9_isWaySure_zd_X9_lay_66 rfl rfl rfl (by decide +kernel) ⟨Nat.le_of_ble_eq_true rfl, Nat.le_of_ble_eq_true rfl⟩) ⟨zCW, va_recv hK hP (ci := 9) (q0 := p_14) rfl hp_14, fun U hU hW => ⟨rfl, by rw [hU], by rw [hU]; exact hP, hE.warm hW, hD.weaken (fun _ _ _ _ => trivial)⟩⟩ rfl rfl hl.1 rfl (lv_room (Nat.le_of_ble_eq_true rfl)) dX9_isWaySure_14 ⟨Nat.le_of_ble_eq_true rfl, Nat.le_of_ble_eq_true rfl⟩) hS (fun q _ h => hFc q h) hFc (fun S15 t H locs ht hvm h hB hz1 hk1 hS => ?_)
      obtain ⟨hP, hD1, hN1⟩ := hB
      rw [ht] at hP
      have hD := hD1.weaken (fun k q _ hq => hFc q.1 hq)
      have hN := hN1.trans hN
      refine lv_iconst (v := 0) hx hb dX9_isWaySure_17 (by decide) ?_
      exact W.zret (v := 0) (ty := .boolean) hx hb hr (by decide) (fun t ht hW => ⟨⟨_, S15, rfl, h, by rw [ht]; exact hP, hD, hN⟩, hS.F ht⟩) hS.2.2 dX9_isWaySure_18
  exact key _ _ hP va_S.rf

def wp_X9_isFieldKnown (S : CST) (i1 : Nat) (a2 : Int32) (a3 : Int32) (Post : CST → Int32 → Prop) : Prop :=
  ((((3 + a2) : Int32) < 3) → (Post S 0)) ∧ ((¬ (((3 + a2) : Int32) < 3)) → (((11 ≤ (3 + a2)) → (Post S 0)) ∧ ((¬ (11 ≤ (3 + a2))) → (vp_in (3 + a2) 11 ∧ (((((cv S 190 0 (3 + a2 : Int32).toNatClampNeg) : Int32) = 0) → (Post S 0)) ∧ ((¬ (((cv S 190 0 (3 + a2 : Int32).toNatClampNeg) : Int32) = 0)) → (cin S 28 i1 ∧ (wp_X5_valueOf S i1 (3 + a2) (fun r7 => wp_X9_know S a3 r7 (fun S9 => Post S9 1))))))))))
def zw_zd_X9_isFieldKnown_w0 : List Cond := [.fieldLink RX9 22 "TemplateForge$Smith" "assumed" "[Z", .code yX5_valueOf cX5_valueOf 2 (some .int), .fieldLink RX5 9 "TemplateForge$Heat" "first" "[I", .methodLink RX9 118 yX5_valueOf, .instanceMethod yX5_valueOf, .selects RX5 yX5_valueOf yX5_valueOf, .initialized RX5, .code yX9_know cX9_know 3 none, .fieldLink RX9 9 "TemplateForge$Smith" "known" "[Z", .fieldLink RX9 15 "TemplateForge$Smith" "worth" "[I", .methodLink RX9 125 yX9_know, .instanceMethod yX9_know, .selects RX9 yX9_know yX9_know, .initialized RX9]
def zw_zd_X9_isFieldKnown : List Cond := .code yX9_isFieldKnown cX9_isFieldKnown 5 (some .boolean) :: ((zw_zd_X9_isFieldKnown_w0) ++ wsX90 ++ wsX50)
set_option maxRecDepth 100000 in
theorem zg_zd_X9_isFieldKnown_zd_X5_valueOf_118_a : GoodIn zw_zd_X9_isFieldKnown [.methodLink RX9 118 yX5_valueOf, .instanceMethod yX5_valueOf, .selects RX5 yX5_valueOf yX5_valueOf, .initialized RX5] := goodIn_r _ [4, 5, 6, 7] rfl (by decide +kernel)
set_option maxRecDepth 100000 in
theorem zg_zd_X9_isFieldKnown_zd_X5_valueOf_118_c : GoodIn zw_zd_X9_isFieldKnown [.code yX5_valueOf cX5_valueOf 2 (some .int)] := goodIn_r _ [2] rfl (by decide +kernel)
set_option maxRecDepth 100000 in
theorem zg_zd_X9_isFieldKnown_zd_X5_valueOf_118_0 : GoodIn zw_zd_X9_isFieldKnown zw_zd_X5_valueOf_w0 := goodIn_r _ [3] rfl (by decide +kernel)
theorem zg_zd_X9_isFieldKnown_zd_X5_valueOf_118 : GoodIn zw_zd_X9_isFieldKnown (wsV RX9 118 RX5 yX5_valueOf zw_zd_X5_valueOf) := goodIn_app zg_zd_X9_isFieldKnown_zd_X5_valueOf_118_a (goodIn_ca (a := (zw_zd_X5_valueOf_w0)) (show GoodIn zw_zd_X9_isFieldKnown (.code yX5_valueOf cX5_valueOf 2 (some .int) :: (zw_zd_X5_valueOf_w0)) from goodIn_app zg_zd_X9_isFieldKnown_zd_X5_valueOf_118_c (zg_zd_X9_isFieldKnown_zd_X5_valueOf_118_0)) (fun w h => ⟨(fun _ h => List.mem_cons_of_mem _ (List.mem_append_right _ h)) w h, good_of_word (List.all_eq_true.mp zgw_X5 w h)⟩))
set_option maxRecDepth 100000 in
theorem zg_zd_X9_isFieldKnown_zd_X9_know_125_a : GoodIn zw_zd_X9_isFieldKnown [.methodLink RX9 125 yX9_know, .instanceMethod yX9_know, .selects RX9 yX9_know yX9_know, .initialized RX9] := goodIn_r _ [11, 12, 13, 14] rfl (by decide +kernel)
set_option maxRecDepth 100000 in
theorem zg_zd_X9_isFieldKnown_zd_X9_know_125_c : GoodIn zw_zd_X9_isFieldKnown [.code yX9_know cX9_know 3 none] := goodIn_r _ [8] rfl (by decide +kernel)
set_option maxRecDepth 100000 in
theorem zg_zd_X9_isFieldKnown_zd_X9_know_125_0 : GoodIn zw_zd_X9_isFieldKnown zw_zd_X9_know_w0 := goodIn_r _ [9, 10] rfl (by decide +kernel)
theorem zg_zd_X9_isFieldKnown_zd_X9_know_125 : GoodIn zw_zd_X9_isFieldKnown (wsV RX9 125 RX9 yX9_know zw_zd_X9_know) := goodIn_app zg_zd_X9_isFieldKnown_zd_X9_know_125_a (goodIn_ca (a := (zw_zd_X9_know_w0)) (show GoodIn zw_zd_X9_isFieldKnown (.code yX9_know cX9_know 3 none :: (zw_zd_X9_know_w0)) from goodIn_app zg_zd_X9_isFieldKnown_zd_X9_know_125_c (zg_zd_X9_isFieldKnown_zd_X9_know_125_0)) (fun w h => ⟨(fun _ h => List.mem_cons_of_mem _ (List.mem_append_left _ (List.mem_append_right _ h))) w h, good_of_word (List.all_eq_true.mp zgw_X9 w h)⟩))
set_option maxHeartbeats 16000000 in
set_option maxRecDepth 100000 in
theorem zd_X9_isFieldKnown (l : Launch) (D : va_G) (cI cZ cP cF : Nat) (q : Nat → Nat → Nat) (S : CST) (i1 : Nat) (a2 : Int32) (a3 : Int32) (sz : Nat) (Post : CST → Int32 → Prop) (h : wp_X9_isFieldKnown S i1 a2 a3 Post) : Met l yX9_isFieldKnown zw_zd_X9_isFieldKnown ({ frames := 1, cells := 0, slots := 0, locals := 22 }) (va_Pc [.ref (q 15 0), .ref (q 28 i1), .int a2, .int a3] (fun U => U.heap.size = sz ∧ va_P D vwCl (cW cI cZ cP cF q S) U.heap ∧ zF D cI cZ cP cF U ∧ va_D (fun _ => True) (cW cI cZ cP cF q S))) (va_Qi (fun r S' => Post S' r) (fun (S' : CST) t => va_P D vwCl (cW cI cZ cP cF q S') t.heap ∧ va_D (va_A (cW cI cZ cP cF q S) sz) (cW cI cZ cP cF q S') ∧ S'.2 = S.2) (va_A (cW cI cZ cP cF q S) sz)) 0 0 (va_A (cW cI cZ cP cF q S) sz) := by
  unfold wp_X9_isFieldKnown at h
  refine Met.ofW (cc := cX9_isFieldKnown) (maxL := 5) (ret := (some .boolean)) (by decide) rfl ?_
  intro p e s m args below meth c s₁ B hml hv
  obtain ⟨rfl, hsz, hP, hE, hD0⟩ := hv
  have hx := B.exec
  have hb := B.bytes
  have hr := B.returns
  have hts := atoms_spec (ws := zw_zd_X9_isFieldKnown) B.pre
  have hown : s.vm.findClass RX9 = some m.cls := findClass_of_methodNamed B.named
  have hlocks := B.notSynchronized
  have hK := hE.k
  subst hsz
  have hD := hD0.self (sz := s.heap.size)
  generalize hAe : va_A (cW cI cZ cP cF q S) s.heap.size = A at hD ⊢
  have hA : ∀ q : Nat, s.heap.size ≤ q → A q := fun q h => by rw [← hAe]; exact Or.inr h
  have hN : S.2 = S.2 := rfl
  have hl := lv_entry ([.ref (q 15 0), .ref (q 28 i1), .int a2, .int a3]) (n := 5) (Nat.le_of_ble_eq_true rfl)
  rw [lg_entry_eq]
  generalize (lg_sl ([.ref (q 15 0), .ref (q 28 i1), .int a2, .int a3]) ++ List.replicate (5 - (lg_sl ([.ref (q 15 0), .ref (q 28 i1), .int a2, .int a3])).length) Slot.unset).toArray = ls at hl ⊢
  have hl : lv_has ls 5 [(0, .ref (q 15 0)), (1, .ref (q 28 i1)), (2, .int a2), (3, .int a3)] := hl
  have key : ∀ (H : Heap) (locs : List Loc), va_P D vwCl (cW cI cZ cP cF q S) H → va_S A s.heap H locs → W p l e (headSpec zw_zd_X9_isFieldKnown ({ frames := 1, cells := 0, slots := 0, locals := 22 })).room s m ([.ref (q 15 0), .ref (q 28 i1), .int a2, .int a3] : List Value).toArray below meth c H locs 0 0 (MQ below (va_Qi (fun r S' => Post S' r) (fun (S' : CST) t => va_P D vwCl (cW cI cZ cP cF q S') t.heap ∧ va_D A (cW cI cZ cP cF q S') ∧ S'.2 = S.2) A) ([.ref (q 15 0), .ref (q 28 i1), .int a2, .int a3] : List Value).toArray s 0 0 A) (F0 m 0 ls []) := by
    intro H locs hP hS
    refine lv_iconst (v := 3) hx hb dX9_isFieldKnown_0 (by decide) ?_
    refine lv_iload_n hx hb dX9_isFieldKnown_1 rfl (lv_at hl 2 rfl) ?_
    refine lv_iadd hx hb dX9_isFieldKnown_2 ?_
    refine lv_istore (lv' := [(4, .int (3 + a2)), (0, .ref (q 15 0)), (1, .ref (q 28 i1)), (2, .int a2), (3, .int a3)]) hx hb dX9_isFieldKnown_3 hl (by decide) rfl (fun ls hl => ?_)
    refine lv_iload hx hb dX9_isFieldKnown_5 (lv_at hl 0 rfl) ?_
    refine lv_iconst (v := 3) hx hb dX9_isFieldKnown_7 (by decide) ?_
    refine lv_icmp_lt (tgt := 41) hx hb dX9_isFieldKnown_8 (by decide) (fun c_1 => ?_) (fun c_1 => ?_)
    · have h := h.1 c_1
      refine lv_iconst (v := 0) hx hb dX9_isFieldKnown_41 (by decide) ?_
      exact W.zret (v := 0) (ty := .boolean) hx hb hr (by decide) (fun t ht hW => ⟨⟨_, S, rfl, h, by rw [ht]; exact hP, hD, hN⟩, hS.F ht⟩) hS.2.2 dX9_isFieldKnown_42
    · have h := h.2 c_1
      refine lv_iload hx hb dX9_isFieldKnown_11 (lv_at hl 0 rfl) ?_
      refine lv_bipush (v := 11) hx hb dX9_isFieldKnown_13 (by decide) ?_
      refine lv_icmp_ge (tgt := 41) hx hb dX9_isFieldKnown_15 (by decide) (fun c_2 => ?_) (fun c_2 => ?_)
      · have h := h.1 c_2
        refine lv_iconst (v := 0) hx hb dX9_isFieldKnown_41 (by decide) ?_
        exact W.zret (v := 0) (ty := .boolean) hx hb hr (by decide) (fun t ht hW => ⟨⟨_, S, rfl, h, by rw [ht]; exact hP, hD, hN⟩, hS.F ht⟩) hS.2.2 dX9_isFieldKnown_42
      · have h := h.2 c_2
        refine lv_aload_n hx hb dX9_isFieldKnown_18 rfl (lv_at hl 1 rfl) ?_
        obtain ⟨p_3, hp_3⟩ := cget_15 cI cZ cP cF q S
        have hi_3 : cin S 15 0 := Or.inl ⟨by decide, rfl⟩
        refine va_get (D := D) (ci := 9) (v := .ref (q 19 0)) (C := RX9) (T := TX9) (N := 5) hx hb hts (fun _ h => List.mem_cons_of_mem _ (List.mem_append_left _ (List.mem_append_right _ h))) hown hK hP p_3 hp_3 rfl 4 (by decide) (hts (.fieldLink RX9 22 "TemplateForge$Smith" "assumed" "[Z") (List.mem_of_getElem? (i := 1) rfl)) (fun _ h9 => h9) rfl dX9_isFieldKnown_19 ?_
        refine lv_iload hx hb dX9_isFieldKnown_22 (lv_at hl 0 rfl) ?_
        obtain ⟨p_4, hp_4⟩ := cget_19 cI cZ cP cF q S
        have hi_4 : cin S 19 0 := Or.inl ⟨by decide, rfl⟩
        have hin_4 := h.1
        have h := h.2
        refine va_zald hx hb hK hP p_4 1 hp_4 rfl hin_4 dX9_isFieldKnown_24 ?_
        refine lv_if_eq (tgt := 41) hx hb dX9_isFieldKnown_25 (by decide) (fun c_5 => ?_) (fun c_5 => ?_)
        · have h := h.1 c_5
          refine lv_iconst (v := 0) hx hb dX9_isFieldKnown_41 (by decide) ?_
          exact W.zret (v := 0) (ty := .boolean) hx hb hr (by decide) (fun t ht hW => ⟨⟨_, S, rfl, h, by rw [ht]; exact hP, hD, hN⟩, hS.F ht⟩) hS.2.2 dX9_isFieldKnown_42
        · have h := h.2 c_5
          refine lv_aload_n hx hb dX9_isFieldKnown_28 rfl (lv_at hl 1 rfl) ?_
          refine lv_iload_n hx hb dX9_isFieldKnown_29 rfl (lv_at hl 4 rfl) ?_
          refine lv_aload_n hx hb dX9_isFieldKnown_30 rfl (lv_at hl 2 rfl) ?_
          refine lv_iload hx hb dX9_isFieldKnown_31 (lv_at hl 0 rfl) ?_
          have hi_6 := h.1
          have h := h.2
          obtain ⟨p_6, hp_6⟩ := cget_28 cI cZ cP cF q S hi_6
          refine vp_callSi (va_Run.run (va_runV (As := [.int (3 + a2)]) (rest := [.int a3, .ref (q 15 0)]) ⟨hx, hb, hml, hown, hts⟩ (zd_X5_valueOf l D cI cZ cP cF q S i1 (3 + a2)  _ h) (cwV 1 hts zg_zd_X9_isFieldKnown_zd_X5_valueOf_118 rfl rfl rfl (by decide +kernel) ⟨Nat.le_of_ble_eq_true rfl, Nat.le_of_ble_eq_true rfl⟩) ⟨zCR, va_recv hK hP (ci := 5) (q0 := p_6) rfl hp_6, fun U hU hW => ⟨rfl, by rw [hU]; exact hP, hE.warm hW⟩⟩ rfl rfl hl.1 rfl (lv_room (Nat.le_of_ble_eq_true rfl)) dX9_isFieldKnown_33 ⟨Nat.le_of_ble_eq_true rfl, Nat.le_of_ble_eq_true rfl⟩)) (fun r7 h => ?_)
          obtain ⟨p_8, hp_8⟩ := cget_15 cI cZ cP cF q S
          have hi_8 : cin S 15 0 := Or.inl ⟨by decide, rfl⟩
          have hFc := zm_free hD hS hA
          refine va_callv (va_runV (As := [.int a3, .int r7]) (rest := []) ⟨hx, hb, hml, hown, hts⟩ (zd_X9_know l D cI cZ cP cF q S a3 r7 H.size _ h) (cwV 2 hts zg_zd_X9_isFieldKnown_zd_X9_know_125 rfl rfl rfl (by decide +kernel) ⟨Nat.le_of_ble_eq_true rfl, Nat.le_of_ble_eq_true rfl⟩) ⟨zCW, va_recv hK hP (ci := 9) (q0 := p_8) rfl hp_8, fun U hU hW => ⟨rfl, by rw [hU], by rw [hU]; exact hP, hE.warm hW, hD.weaken (fun _ _ _ _ => trivial)⟩⟩ rfl rfl hl.1 rfl (lv_room (Nat.le_of_ble_eq_true rfl)) dX9_isFieldKnown_36 ⟨Nat.le_of_ble_eq_true rfl, Nat.le_of_ble_eq_true rfl⟩) hS (fun q _ h => hFc q h) hFc (fun S9 t H locs ht hvm h hB hz1 hk1 hS => ?_)
          obtain ⟨hP, hD1, hN1⟩ := hB
          rw [ht] at hP
          have hD := hD1.weaken (fun k q _ hq => hFc q.1 hq)
          have hN := hN1.trans hN
          refine lv_iconst (v := 1) hx hb dX9_isFieldKnown_39 (by decide) ?_
          exact W.zret (v := 1) (ty := .boolean) hx hb hr (by decide) (fun t ht hW => ⟨⟨_, S9, rfl, h, by rw [ht]; exact hP, hD, hN⟩, hS.F ht⟩) hS.2.2 dX9_isFieldKnown_40
  exact key _ _ hP va_S.rf

def wp_X9_isResultKnown (S : CST) (a1 : Int32) (a2 : Int32) (a3 : Int32) (a4 : Int32) (Post : CST → Int32 → Prop) : Prop :=
  ((¬ ((a1 : Int32) = 5)) → (wp_X9_isKnown S a2 (fun r3 => (((r3 : Int32) = 0) → (wp_X9_lay S a2 a3 a4 (fun S6 => Post S6 0))) ∧ ((¬ ((r3 : Int32) = 0)) → (wp_X9_isKnown S a3 (fun r8 => (((r8 : Int32) = 0) → (wp_X9_lay S a2 a3 a4 (fun S11 => Post S11 0))) ∧ ((¬ ((r8 : Int32) = 0)) → (wp_X9_worthOf S a2 (fun r13 => wp_X9_worthOf S a3 (fun r15 => wp_X11_reckoned a1 r13 r15 (fun r16 => wp_X9_know S a2 r16 (fun S18 => wp_X9_forget S18 a3 (fun S20 => Post S20 1))))))))))))) ∧ (((a1 : Int32) = 5) → (wp_X9_worthOf S a3 (fun r22 => ((¬ ((r22 : Int32) = 0)) → (wp_X9_isKnown S a2 (fun r25 => (((r25 : Int32) = 0) → (wp_X9_lay S a2 a3 a4 (fun S28 => Post S28 0))) ∧ ((¬ ((r25 : Int32) = 0)) → (wp_X9_isKnown S a3 (fun r30 => (((r30 : Int32) = 0) → (wp_X9_lay S a2 a3 a4 (fun S33 => Post S33 0))) ∧ ((¬ ((r30 : Int32) = 0)) → (wp_X9_worthOf S a2 (fun r35 => wp_X9_worthOf S a3 (fun r37 => wp_X11_reckoned a1 r35 r37 (fun r38 => wp_X9_know S a2 r38 (fun S40 => wp_X9_forget S40 a3 (fun S42 => Post S42 1))))))))))))) ∧ (((r22 : Int32) = 0) → (wp_X9_isKnown S a2 (fun r44 => (((r44 : Int32) = 0) → (wp_X9_lay S a2 a3 a4 (fun S47 => Post S47 0))) ∧ ((¬ ((r44 : Int32) = 0)) → (wp_X9_isKnown S a3 (fun r49 => (((r49 : Int32) = 0) → (wp_X9_lay S a2 a3 a4 (fun S52 => Post S52 0))) ∧ ((¬ ((r49 : Int32) = 0)) → (wp_X9_lay S a2 a3 a4 (fun S54 => Post S54 0))))))))))))
def zw_zd_X9_isResultKnown_w0 : List Cond := [.code yX9_isKnown cX9_isKnown 2 (some .boolean), .fieldLink RX9 9 "TemplateForge$Smith" "known" "[Z", .methodLink RX9 154 yX9_isKnown, .instanceMethod yX9_isKnown, .selects RX9 yX9_isKnown yX9_isKnown, .initialized RX9, .code yX9_lay cX9_lay 5 none, .methodLink RX9 112 Lib.Math.max.name, .static Lib.Math.max.name, .initialized "java/lang/Math", .code Lib.Math.max.name Lib.Math.max.code 2 (some .int), .fieldLink RX9 25 "TemplateForge$Smith" "draft" "LTemplateForge$Draft;", .fieldLink RX9 15 "TemplateForge$Smith" "worth" "[I", .code yX3_add cX3_add 7 none, .fieldLink RX3 18 "TemplateForge$Draft" "parts" "I", .fieldLink RX3 9 "TemplateForge$Draft" "cells" "[I"]
def zw_zd_X9_isResultKnown_w1 : List Cond := [.methodLink RX9 121 yX3_add, .instanceMethod yX3_add, .selects RX3 yX3_add yX3_add, .initialized RX3, .methodLink RX9 66 yX9_lay, .instanceMethod yX9_lay, .selects RX9 yX9_lay yX9_lay, .code yX9_worthOf cX9_worthOf 2 (some .int), .methodLink RX9 157 yX9_worthOf, .instanceMethod yX9_worthOf, .selects RX9 yX9_worthOf yX9_worthOf, .code yX11_reckoned cX11_reckoned 3 (some .int), .static yX11_reckoned, .initialized RX11, .code yX9_know cX9_know 3 none, .methodLink RX9 125 yX9_know]
def zw_zd_X9_isResultKnown_w2 : List Cond := [.instanceMethod yX9_know, .selects RX9 yX9_know yX9_know, .code yX9_forget cX9_forget 2 none, .methodLink RX9 140 yX9_forget, .instanceMethod yX9_forget, .selects RX9 yX9_forget yX9_forget]
def zw_zd_X9_isResultKnown : List Cond := .code yX9_isResultKnown cX9_isResultKnown 6 (some .boolean) :: ((zw_zd_X9_isResultKnown_w0 ++ (zw_zd_X9_isResultKnown_w1 ++ (zw_zd_X9_isResultKnown_w2))) ++ wsX90 ++ wsX30)
set_option maxRecDepth 100000 in
theorem zg_zd_X9_isResultKnown_zd_X9_isKnown_154_a : GoodIn zw_zd_X9_isResultKnown [.methodLink RX9 154 yX9_isKnown, .instanceMethod yX9_isKnown, .selects RX9 yX9_isKnown yX9_isKnown, .initialized RX9] := goodIn_r _ [3, 4, 5, 6] rfl (by decide +kernel)
set_option maxRecDepth 100000 in
theorem zg_zd_X9_isResultKnown_zd_X9_isKnown_154_c : GoodIn zw_zd_X9_isResultKnown [.code yX9_isKnown cX9_isKnown 2 (some .boolean)] := goodIn_r _ [1] rfl (by decide +kernel)
set_option maxRecDepth 100000 in
theorem zg_zd_X9_isResultKnown_zd_X9_isKnown_154_0 : GoodIn zw_zd_X9_isResultKnown zw_zd_X9_isKnown_w0 := goodIn_r _ [2] rfl (by decide +kernel)
theorem zg_zd_X9_isResultKnown_zd_X9_isKnown_154 : GoodIn zw_zd_X9_isResultKnown (wsV RX9 154 RX9 yX9_isKnown zw_zd_X9_isKnown) := goodIn_app zg_zd_X9_isResultKnown_zd_X9_isKnown_154_a (goodIn_ca (a := (zw_zd_X9_isKnown_w0)) (show GoodIn zw_zd_X9_isResultKnown (.code yX9_isKnown cX9_isKnown 2 (some .boolean) :: (zw_zd_X9_isKnown_w0)) from goodIn_app zg_zd_X9_isResultKnown_zd_X9_isKnown_154_c (zg_zd_X9_isResultKnown_zd_X9_isKnown_154_0)) (fun w h => ⟨(fun _ h => List.mem_cons_of_mem _ (List.mem_append_left _ (List.mem_append_right _ h))) w h, good_of_word (List.all_eq_true.mp zgw_X9 w h)⟩))
set_option maxRecDepth 100000 in
theorem zg_zd_X9_isResultKnown_zd_X9_lay_66_a : GoodIn zw_zd_X9_isResultKnown [.methodLink RX9 66 yX9_lay, .instanceMethod yX9_lay, .selects RX9 yX9_lay yX9_lay, .initialized RX9] := goodIn_r _ [21, 22, 23, 6] rfl (by decide +kernel)
set_option maxRecDepth 100000 in
theorem zg_zd_X9_isResultKnown_zd_X9_lay_66_c : GoodIn zw_zd_X9_isResultKnown [.code yX9_lay cX9_lay 5 none] := goodIn_r _ [7] rfl (by decide +kernel)
set_option maxRecDepth 100000 in
theorem zg_zd_X9_isResultKnown_zd_X9_lay_66_0 : GoodIn zw_zd_X9_isResultKnown zw_zd_X9_lay_w0 := goodIn_r _ [8, 9, 10, 11, 2, 12, 13, 14, 15, 16, 17, 18, 19, 20] rfl (by decide +kernel)
theorem zg_zd_X9_isResultKnown_zd_X9_lay_66 : GoodIn zw_zd_X9_isResultKnown (wsV RX9 66 RX9 yX9_lay zw_zd_X9_lay) := goodIn_app zg_zd_X9_isResultKnown_zd_X9_lay_66_a (goodIn_ca (a := ((zw_zd_X9_lay_w0) ++ wsX90)) (goodIn_ca (a := (zw_zd_X9_lay_w0)) (show GoodIn zw_zd_X9_isResultKnown (.code yX9_lay cX9_lay 5 none :: (zw_zd_X9_lay_w0)) from goodIn_app zg_zd_X9_isResultKnown_zd_X9_lay_66_c (zg_zd_X9_isResultKnown_zd_X9_lay_66_0)) (fun w h => ⟨(fun _ h => List.mem_cons_of_mem _ (List.mem_append_left _ (List.mem_append_right _ h))) w h, good_of_word (List.all_eq_true.mp zgw_X9 w h)⟩)) (fun w h => ⟨(fun _ h => List.mem_cons_of_mem _ (List.mem_append_right _ h)) w h, good_of_word (List.all_eq_true.mp zgw_X3 w h)⟩))
set_option maxRecDepth 100000 in
theorem zg_zd_X9_isResultKnown_zd_X9_worthOf_157_a : GoodIn zw_zd_X9_isResultKnown [.methodLink RX9 157 yX9_worthOf, .instanceMethod yX9_worthOf, .selects RX9 yX9_worthOf yX9_worthOf, .initialized RX9] := goodIn_r _ [25, 26, 27, 6] rfl (by decide +kernel)
set_option maxRecDepth 100000 in
theorem zg_zd_X9_isResultKnown_zd_X9_worthOf_157_c : GoodIn zw_zd_X9_isResultKnown [.code yX9_worthOf cX9_worthOf 2 (some .int)] := goodIn_r _ [24] rfl (by decide +kernel)
set_option maxRecDepth 100000 in
theorem zg_zd_X9_isResultKnown_zd_X9_worthOf_157_0 : GoodIn zw_zd_X9_isResultKnown zw_zd_X9_worthOf_w0 := goodIn_r _ [13] rfl (by decide +kernel)
theorem zg_zd_X9_isResultKnown_zd_X9_worthOf_157 : GoodIn zw_zd_X9_isResultKnown (wsV RX9 157 RX9 yX9_worthOf zw_zd_X9_worthOf) := goodIn_app zg_zd_X9_isResultKnown_zd_X9_worthOf_157_a (goodIn_ca (a := (zw_zd_X9_worthOf_w0)) (show GoodIn zw_zd_X9_isResultKnown (.code yX9_worthOf cX9_worthOf 2 (some .int) :: (zw_zd_X9_worthOf_w0)) from goodIn_app zg_zd_X9_isResultKnown_zd_X9_worthOf_157_c (zg_zd_X9_isResultKnown_zd_X9_worthOf_157_0)) (fun w h => ⟨(fun _ h => List.mem_cons_of_mem _ (List.mem_append_left _ (List.mem_append_right _ h))) w h, good_of_word (List.all_eq_true.mp zgw_X9 w h)⟩))
set_option maxRecDepth 100000 in
theorem zg_zd_X9_isResultKnown_zd_X11_reckoned_160_c : GoodIn zw_zd_X9_isResultKnown [.code yX11_reckoned cX11_reckoned 3 (some .int)] := goodIn_r _ [28] rfl (by decide +kernel)
theorem zg_zd_X9_isResultKnown_zd_X11_reckoned_160 : GoodIn zw_zd_X9_isResultKnown zw_zd_X11_reckoned := (show GoodIn zw_zd_X9_isResultKnown (.code yX11_reckoned cX11_reckoned 3 (some .int) :: (([] : List Cond))) from zg_zd_X9_isResultKnown_zd_X11_reckoned_160_c)
set_option maxRecDepth 100000 in
theorem zg_zd_X9_isResultKnown_zd_X9_know_125_a : GoodIn zw_zd_X9_isResultKnown [.methodLink RX9 125 yX9_know, .instanceMethod yX9_know, .selects RX9 yX9_know yX9_know, .initialized RX9] := goodIn_r _ [32, 33, 34, 6] rfl (by decide +kernel)
set_option maxRecDepth 100000 in
theorem zg_zd_X9_isResultKnown_zd_X9_know_125_c : GoodIn zw_zd_X9_isResultKnown [.code yX9_know cX9_know 3 none] := goodIn_r _ [31] rfl (by decide +kernel)
set_option maxRecDepth 100000 in
theorem zg_zd_X9_isResultKnown_zd_X9_know_125_0 : GoodIn zw_zd_X9_isResultKnown zw_zd_X9_know_w0 := goodIn_r _ [2, 13] rfl (by decide +kernel)
theorem zg_zd_X9_isResultKnown_zd_X9_know_125 : GoodIn zw_zd_X9_isResultKnown (wsV RX9 125 RX9 yX9_know zw_zd_X9_know) := goodIn_app zg_zd_X9_isResultKnown_zd_X9_know_125_a (goodIn_ca (a := (zw_zd_X9_know_w0)) (show GoodIn zw_zd_X9_isResultKnown (.code yX9_know cX9_know 3 none :: (zw_zd_X9_know_w0)) from goodIn_app zg_zd_X9_isResultKnown_zd_X9_know_125_c (zg_zd_X9_isResultKnown_zd_X9_know_125_0)) (fun w h => ⟨(fun _ h => List.mem_cons_of_mem _ (List.mem_append_left _ (List.mem_append_right _ h))) w h, good_of_word (List.all_eq_true.mp zgw_X9 w h)⟩))
set_option maxRecDepth 100000 in
theorem zg_zd_X9_isResultKnown_zd_X9_forget_140_a : GoodIn zw_zd_X9_isResultKnown [.methodLink RX9 140 yX9_forget, .instanceMethod yX9_forget, .selects RX9 yX9_forget yX9_forget, .initialized RX9] := goodIn_r _ [36, 37, 38, 6] rfl (by decide +kernel)
set_option maxRecDepth 100000 in
theorem zg_zd_X9_isResultKnown_zd_X9_forget_140_c : GoodIn zw_zd_X9_isResultKnown [.code yX9_forget cX9_forget 2 none] := goodIn_r _ [35] rfl (by decide +kernel)
set_option maxRecDepth 100000 in
theorem zg_zd_X9_isResultKnown_zd_X9_forget_140_0 : GoodIn zw_zd_X9_isResultKnown zw_zd_X9_forget_w0 := goodIn_r _ [2] rfl (by decide +kernel)
theorem zg_zd_X9_isResultKnown_zd_X9_forget_140 : GoodIn zw_zd_X9_isResultKnown (wsV RX9 140 RX9 yX9_forget zw_zd_X9_forget) := goodIn_app zg_zd_X9_isResultKnown_zd_X9_forget_140_a (goodIn_ca (a := (zw_zd_X9_forget_w0)) (show GoodIn zw_zd_X9_isResultKnown (.code yX9_forget cX9_forget 2 none :: (zw_zd_X9_forget_w0)) from goodIn_app zg_zd_X9_isResultKnown_zd_X9_forget_140_c (zg_zd_X9_isResultKnown_zd_X9_forget_140_0)) (fun w h => ⟨(fun _ h => List.mem_cons_of_mem _ (List.mem_append_left _ (List.mem_append_right _ h))) w h, good_of_word (List.all_eq_true.mp zgw_X9 w h)⟩))
set_option maxHeartbeats 16000000 in
set_option maxRecDepth 100000 in
theorem zd_X9_isResultKnown (l : Launch) (D : va_G) (cI cZ cP cF : Nat) (q : Nat → Nat → Nat) (S : CST) (a1 : Int32) (a2 : Int32) (a3 : Int32) (a4 : Int32) (sz : Nat) (Post : CST → Int32 → Prop) (h : wp_X9_isResultKnown S a1 a2 a3 a4 Post) : Met l yX9_isResultKnown zw_zd_X9_isResultKnown ({ frames := 2, cells := 0, slots := 0, locals := 54 }) (va_Pc [.ref (q 15 0), .int a1, .int a2, .int a3, .int a4] (fun U => U.heap.size = sz ∧ va_P D vwCl (cW cI cZ cP cF q S) U.heap ∧ zF D cI cZ cP cF U ∧ va_D (fun _ => True) (cW cI cZ cP cF q S))) (va_Qi (fun r S' => Post S' r) (fun (S' : CST) t => va_P D vwCl (cW cI cZ cP cF q S') t.heap ∧ va_D (va_A (cW cI cZ cP cF q S) sz) (cW cI cZ cP cF q S') ∧ S'.2 = S.2) (va_A (cW cI cZ cP cF q S) sz)) 0 0 (va_A (cW cI cZ cP cF q S) sz) := by
  unfold wp_X9_isResultKnown at h
  refine Met.ofW (cc := cX9_isResultKnown) (maxL := 6) (ret := (some .boolean)) (by decide) rfl ?_
  intro p e s m args below meth c s₁ B hml hv
  obtain ⟨rfl, hsz, hP, hE, hD0⟩ := hv
  have hx := B.exec
  have hb := B.bytes
  have hr := B.returns
  have hts := atoms_spec (ws := zw_zd_X9_isResultKnown) B.pre
  have hown : s.vm.findClass RX9 = some m.cls := findClass_of_methodNamed B.named
  have hlocks := B.notSynchronized
  have hK := hE.k
  subst hsz
  have hD := hD0.self (sz := s.heap.size)
  generalize hAe : va_A (cW cI cZ cP cF q S) s.heap.size = A at hD ⊢
  have hA : ∀ q : Nat, s.heap.size ≤ q → A q := fun q h => by rw [← hAe]; exact Or.inr h
  have hN : S.2 = S.2 := rfl
  have hl := lv_entry ([.ref (q 15 0), .int a1, .int a2, .int a3, .int a4]) (n := 6) (Nat.le_of_ble_eq_true rfl)
  rw [lg_entry_eq]
  generalize (lg_sl ([.ref (q 15 0), .int a1, .int a2, .int a3, .int a4]) ++ List.replicate (6 - (lg_sl ([.ref (q 15 0), .int a1, .int a2, .int a3, .int a4])).length) Slot.unset).toArray = ls at hl ⊢
  have hl : lv_has ls 6 [(0, .ref (q 15 0)), (1, .int a1), (2, .int a2), (3, .int a3), (4, .int a4)] := hl
  have key : ∀ (H : Heap) (locs : List Loc), va_P D vwCl (cW cI cZ cP cF q S) H → va_S A s.heap H locs → W p l e (headSpec zw_zd_X9_isResultKnown ({ frames := 2, cells := 0, slots := 0, locals := 54 })).room s m ([.ref (q 15 0), .int a1, .int a2, .int a3, .int a4] : List Value).toArray below meth c H locs 0 0 (MQ below (va_Qi (fun r S' => Post S' r) (fun (S' : CST) t => va_P D vwCl (cW cI cZ cP cF q S') t.heap ∧ va_D A (cW cI cZ cP cF q S') ∧ S'.2 = S.2) A) ([.ref (q 15 0), .int a1, .int a2, .int a3, .int a4] : List Value).toArray s 0 0 A) (F0 m 0 ls []) := by
    intro H locs hP hS
    refine lv_iload_n hx hb dX9_isResultKnown_0 rfl (lv_at hl 1 rfl) ?_
    refine lv_iconst (v := 5) hx hb dX9_isResultKnown_1 (by decide) ?_
    refine lv_icmp_ne (tgt := 17) hx hb dX9_isResultKnown_2 (by decide) (fun c_1 => ?_) (fun c_1 => ?_)
    · have h := h.1 c_1
      refine lv_iconst (v := 0) hx hb dX9_isResultKnown_17 (by decide) ?_
      refine lv_istore (lv' := [(5, .int 0), (0, .ref (q 15 0)), (1, .int a1), (2, .int a2), (3, .int a3), (4, .int a4)]) hx hb dX9_isResultKnown_18 hl (by decide) rfl (fun ls hl => ?_)
      refine lv_aload_n hx hb dX9_isResultKnown_20 rfl (lv_at hl 1 rfl) ?_
      refine lv_iload_n hx hb dX9_isResultKnown_21 rfl (lv_at hl 3 rfl) ?_
      obtain ⟨p_2, hp_2⟩ := cget_15 cI cZ cP cF q S
      have hi_2 : cin S 15 0 := Or.inl ⟨by decide, rfl⟩
      refine vp_callSi (va_Run.run (va_runV (As := [.int a2]) (rest := []) ⟨hx, hb, hml, hown, hts⟩ (zd_X9_isKnown l D cI cZ cP cF q S a2  _ h) (cwV 1 hts zg_zd_X9_isResultKnown_zd_X9_isKnown_154 rfl rfl rfl (by decide +kernel) ⟨Nat.le_of_ble_eq_true rfl, Nat.le_of_ble_eq_true rfl⟩) ⟨zCR, va_recv hK hP (ci := 9) (q0 := p_2) rfl hp_2, fun U hU hW => ⟨rfl, by rw [hU]; exact hP, hE.warm hW⟩⟩ rfl rfl hl.1 rfl (lv_room (Nat.le_of_ble_eq_true rfl)) dX9_isResultKnown_22 ⟨Nat.le_of_ble_eq_true rfl, Nat.le_of_ble_eq_true rfl⟩)) (fun r3 h => ?_)
      refine lv_if_eq (tgt := 67) hx hb dX9_isResultKnown_25 (by decide) (fun c_4 => ?_) (fun c_4 => ?_)
      · have h := h.1 c_4
        refine lv_aload_n hx hb dX9_isResultKnown_67 rfl (lv_at hl 1 rfl) ?_
        refine lv_iload_n hx hb dX9_isResultKnown_68 rfl (lv_at hl 3 rfl) ?_
        refine lv_iload_n hx hb dX9_isResultKnown_69 rfl (lv_at hl 4 rfl) ?_
        refine lv_iload hx hb dX9_isResultKnown_70 (lv_at hl 5 rfl) ?_
        obtain ⟨p_5, hp_5⟩ := cget_15 cI cZ cP cF q S
        have hi_5 : cin S 15 0 := Or.inl ⟨by decide, rfl⟩
        have hFc := zm_free hD hS hA
        refine va_callv (va_runV (As := [.int a2, .int a3, .int a4]) (rest := []) ⟨hx, hb, hml, hown, hts⟩ (zd_X9_lay l D cI cZ cP cF q S a2 a3 a4 H.size _ h) (cwV 3 hts zg_zd_X9_isResultKnown_zd_X9_lay_66 rfl rfl rfl (by decide +kernel) ⟨Nat.le_of_ble_eq_true rfl, Nat.le_of_ble_eq_true rfl⟩) ⟨zCW, va_recv hK hP (ci := 9) (q0 := p_5) rfl hp_5, fun U hU hW => ⟨rfl, by rw [hU], by rw [hU]; exact hP, hE.warm hW, hD.weaken (fun _ _ _ _ => trivial)⟩⟩ rfl rfl hl.1 rfl (lv_room (Nat.le_of_ble_eq_true rfl)) dX9_isResultKnown_72 ⟨Nat.le_of_ble_eq_true rfl, Nat.le_of_ble_eq_true rfl⟩) hS (fun q _ h => hFc q h) hFc (fun S6 t H locs ht hvm h hB hz1 hk1 hS => ?_)
        obtain ⟨hP, hD1, hN1⟩ := hB
        rw [ht] at hP
        have hD := hD1.weaken (fun k q _ hq => hFc q.1 hq)
        have hN := hN1.trans hN
        refine lv_iconst (v := 0) hx hb dX9_isResultKnown_75 (by decide) ?_
        exact W.zret (v := 0) (ty := .boolean) hx hb hr (by decide) (fun t ht hW => ⟨⟨_, S6, rfl, h, by rw [ht]; exact hP, hD, hN⟩, hS.F ht⟩) hS.2.2 dX9_isResultKnown_76
      · have h := h.2 c_4
        refine lv_aload_n hx hb dX9_isResultKnown_28 rfl (lv_at hl 1 rfl) ?_
        refine lv_iload_n hx hb dX9_isResultKnown_29 rfl (lv_at hl 4 rfl) ?_
        obtain ⟨p_7, hp_7⟩ := cget_15 cI cZ cP cF q S
        have hi_7 : cin S 15 0 := Or.inl ⟨by decide, rfl⟩
        refine vp_callSi (va_Run.run (va_runV (As := [.int a3]) (rest := []) ⟨hx, hb, hml, hown, hts⟩ (zd_X9_isKnown l D cI cZ cP cF q S a3  _ h) (cwV 1 hts zg_zd_X9_isResultKnown_zd_X9_isKnown_154 rfl rfl rfl (by decide +kernel) ⟨Nat.le_of_ble_eq_true rfl, Nat.le_of_ble_eq_true rfl⟩) ⟨zCR, va_recv hK hP (ci := 9) (q0 := p_7) rfl hp_7, fun U hU hW => ⟨rfl, by rw [hU]; exact hP, hE.warm hW⟩⟩ rfl rfl hl.1 rfl (lv_room (Nat.le_of_ble_eq_true rfl)) dX9_isResultKnown_30 ⟨Nat.le_of_ble_eq_true rfl, Nat.le_of_ble_eq_true rfl⟩)) (fun r8 h => ?_)
        refine lv_if_eq (tgt := 67) hx hb dX9_isResultKnown_33 (by decide) (fun c_9 => ?_) (fun c_9 => ?_)
        · have h := h.1 c_9
          refine lv_aload_n hx hb dX9_isResultKnown_67 rfl (lv_at hl 1 rfl) ?_
          refine lv_iload_n hx hb dX9_isResultKnown_68 rfl (lv_at hl 3 rfl) ?_
          refine lv_iload_n hx hb dX9_isResultKnown_69 rfl (lv_at hl 4 rfl) ?_
          refine lv_iload hx hb dX9_isResultKnown_70 (lv_at hl 5 rfl) ?_
          obtain ⟨p_10, hp_10⟩ := cget_15 cI cZ cP cF q S
          have hi_10 : cin S 15 0 := Or.inl ⟨by decide, rfl⟩
          have hFc := zm_free hD hS hA
          refine va_callv (va_runV (As := [.int a2, .int a3, .int a4]) (rest := []) ⟨hx, hb, hml, hown, hts⟩ (zd_X9_lay l D cI cZ cP cF q S a2 a3 a4 H.size _ h) (cwV 3 hts zg_zd_X9_isResultKnown_zd_X9_lay_66 rfl rfl rfl (by decide +kernel) ⟨Nat.le_of_ble_eq_true rfl, Nat.le_of_ble_eq_true rfl⟩) ⟨zCW, va_recv hK hP (ci := 9) (q0 := p_10) rfl hp_10, fun U hU hW => ⟨rfl, by rw [hU], by rw [hU]; exact hP, hE.warm hW, hD.weaken (fun _ _ _ _ => trivial)⟩⟩ rfl rfl hl.1 rfl (lv_room (Nat.le_of_ble_eq_true rfl)) dX9_isResultKnown_72 ⟨Nat.le_of_ble_eq_true rfl, Nat.le_of_ble_eq_true rfl⟩) hS (fun q _ h => hFc q h) hFc (fun S11 t H locs ht hvm h hB hz1 hk1 hS => ?_)
          obtain ⟨hP, hD1, hN1⟩ := hB
          rw [ht] at hP
          have hD := hD1.weaken (fun k q _ hq => hFc q.1 hq)
          have hN := hN1.trans hN
          refine lv_iconst (v := 0) hx hb dX9_isResultKnown_75 (by decide) ?_
          exact W.zret (v := 0) (ty := .boolean) hx hb hr (by decide) (fun t ht hW => ⟨⟨_, S11, rfl, h, by rw [ht]; exact hP, hD, hN⟩, hS.F ht⟩) hS.2.2 dX9_isResultKnown_76
        · have h := h.2 c_9
          refine lv_iload hx hb dX9_isResultKnown_36 (lv_at hl 0 rfl) ?_
          refine lv_if_ne (tgt := 67) hx hb dX9_isResultKnown_38 (by decide) (fun c => absurd (by decide) c) (fun _ => ?_)
          refine lv_aload_n hx hb dX9_isResultKnown_41 rfl (lv_at hl 1 rfl) ?_
          refine lv_iload_n hx hb dX9_isResultKnown_42 rfl (lv_at hl 3 rfl) ?_
          refine lv_iload_n hx hb dX9_isResultKnown_43 rfl (lv_at hl 2 rfl) ?_
          refine lv_aload_n hx hb dX9_isResultKnown_44 rfl (lv_at hl 1 rfl) ?_
          refine lv_iload_n hx hb dX9_isResultKnown_45 rfl (lv_at hl 3 rfl) ?_
          obtain ⟨p_12, hp_12⟩ := cget_15 cI cZ cP cF q S
          have hi_12 : cin S 15 0 := Or.inl ⟨by decide, rfl⟩
          refine vp_callSi (va_Run.run (va_runV (As := [.int a2]) (rest := [.int a1, .int a2, .ref (q 15 0)]) ⟨hx, hb, hml, hown, hts⟩ (zd_X9_worthOf l D cI cZ cP cF q S a2  _ h) (cwV 1 hts zg_zd_X9_isResultKnown_zd_X9_worthOf_157 rfl rfl rfl (by decide +kernel) ⟨Nat.le_of_ble_eq_true rfl, Nat.le_of_ble_eq_true rfl⟩) ⟨zCR, va_recv hK hP (ci := 9) (q0 := p_12) rfl hp_12, fun U hU hW => ⟨rfl, by rw [hU]; exact hP, hE.warm hW⟩⟩ rfl rfl hl.1 rfl (lv_room (Nat.le_of_ble_eq_true rfl)) dX9_isResultKnown_46 ⟨Nat.le_of_ble_eq_true rfl, Nat.le_of_ble_eq_true rfl⟩)) (fun r13 h => ?_)
          refine lv_aload_n hx hb dX9_isResultKnown_49 rfl (lv_at hl 1 rfl) ?_
          refine lv_iload_n hx hb dX9_isResultKnown_50 rfl (lv_at hl 4 rfl) ?_
          obtain ⟨p_14, hp_14⟩ := cget_15 cI cZ cP cF q S
          have hi_14 : cin S 15 0 := Or.inl ⟨by decide, rfl⟩
          refine vp_callSi (va_Run.run (va_runV (As := [.int a3]) (rest := [.int r13, .int a1, .int a2, .ref (q 15 0)]) ⟨hx, hb, hml, hown, hts⟩ (zd_X9_worthOf l D cI cZ cP cF q S a3  _ h) (cwV 1 hts zg_zd_X9_isResultKnown_zd_X9_worthOf_157 rfl rfl rfl (by decide +kernel) ⟨Nat.le_of_ble_eq_true rfl, Nat.le_of_ble_eq_true rfl⟩) ⟨zCR, va_recv hK hP (ci := 9) (q0 := p_14) rfl hp_14, fun U hU hW => ⟨rfl, by rw [hU]; exact hP, hE.warm hW⟩⟩ rfl rfl hl.1 rfl (lv_room (Nat.le_of_ble_eq_true rfl)) dX9_isResultKnown_51 ⟨Nat.le_of_ble_eq_true rfl, Nat.le_of_ble_eq_true rfl⟩)) (fun r15 h => ?_)
          have hP0 : va_P D vwCl [] H := fun k q h => by simp at h
          refine vp_callSi (va_Run.run (va_runSN (As := [.int a1, .int r13, .int r15]) (rest := [.int a2, .ref (q 15 0)]) ⟨hx, hb, hml, hown, hts⟩ (zd_X11_reckoned l D cI cZ cP cF a1 r13 r15  _ h) ⟨va_cnB 3 hts zg_zd_X9_isResultKnown_zd_X11_reckoned_160 rfl rfl rfl hE.nX9_160 (hts (.initialized RX11) (List.mem_of_getElem? (i := 30) rfl)) (by decide +kernel) ⟨Nat.le_of_ble_eq_true rfl, Nat.le_of_ble_eq_true rfl⟩, (hts (.static yX11_reckoned) (List.mem_of_getElem? (i := 29) rfl)), trivial⟩ ⟨zCR, fun U hU hW => ⟨rfl, by rw [hU]; exact hP0, hE.warm hW⟩⟩ rfl rfl hl.1 rfl (lv_room (Nat.le_of_ble_eq_true rfl)) dX9_isResultKnown_54 ⟨Nat.le_of_ble_eq_true rfl, Nat.le_of_ble_eq_true rfl⟩)) (fun r16 h => ?_)
          obtain ⟨p_17, hp_17⟩ := cget_15 cI cZ cP cF q S
          have hi_17 : cin S 15 0 := Or.inl ⟨by decide, rfl⟩
          have hFc := zm_free hD hS hA
          refine va_callv (va_runV (As := [.int a2, .int r16]) (rest := []) ⟨hx, hb, hml, hown, hts⟩ (zd_X9_know l D cI cZ cP cF q S a2 r16 H.size _ h) (cwV 2 hts zg_zd_X9_isResultKnown_zd_X9_know_125 rfl rfl rfl (by decide +kernel) ⟨Nat.le_of_ble_eq_true rfl, Nat.le_of_ble_eq_true rfl⟩) ⟨zCW, va_recv hK hP (ci := 9) (q0 := p_17) rfl hp_17, fun U hU hW => ⟨rfl, by rw [hU], by rw [hU]; exact hP, hE.warm hW, hD.weaken (fun _ _ _ _ => trivial)⟩⟩ rfl rfl hl.1 rfl (lv_room (Nat.le_of_ble_eq_true rfl)) dX9_isResultKnown_57 ⟨Nat.le_of_ble_eq_true rfl, Nat.le_of_ble_eq_true rfl⟩) hS (fun q _ h => hFc q h) hFc (fun S18 t H locs ht hvm h hB hz1 hk1 hS => ?_)
          obtain ⟨hP, hD1, hN1⟩ := hB
          rw [ht] at hP
          have hD := hD1.weaken (fun k q _ hq => hFc q.1 hq)
          have hN := hN1.trans hN
          refine lv_aload_n hx hb dX9_isResultKnown_60 rfl (lv_at hl 1 rfl) ?_
          refine lv_iload_n hx hb dX9_isResultKnown_61 rfl (lv_at hl 4 rfl) ?_
          obtain ⟨p_19, hp_19⟩ := cget_15 cI cZ cP cF q S18
          have hi_19 : cin S18 15 0 := Or.inl ⟨by decide, rfl⟩
          have hFc := zm_free hD hS hA
          refine va_callv (va_runV (As := [.int a3]) (rest := []) ⟨hx, hb, hml, hown, hts⟩ (zd_X9_forget l D cI cZ cP cF q S18 a3 H.size _ h) (cwV 1 hts zg_zd_X9_isResultKnown_zd_X9_forget_140 rfl rfl rfl (by decide +kernel) ⟨Nat.le_of_ble_eq_true rfl, Nat.le_of_ble_eq_true rfl⟩) ⟨zCW, va_recv hK hP (ci := 9) (q0 := p_19) rfl hp_19, fun U hU hW => ⟨rfl, by rw [hU], by rw [hU]; exact hP, hE.warm hW, hD.weaken (fun _ _ _ _ => trivial)⟩⟩ rfl rfl hl.1 rfl (lv_room (Nat.le_of_ble_eq_true rfl)) dX9_isResultKnown_62 ⟨Nat.le_of_ble_eq_true rfl, Nat.le_of_ble_eq_true rfl⟩) hS (fun q _ h => hFc q h) hFc (fun S20 t H locs ht hvm h hB hz1 hk1 hS => ?_)
          obtain ⟨hP, hD1, hN1⟩ := hB
          rw [ht] at hP
          have hD := hD1.weaken (fun k q _ hq => hFc q.1 hq)
          have hN := hN1.trans hN
          refine lv_iconst (v := 1) hx hb dX9_isResultKnown_65 (by decide) ?_
          exact W.zret (v := 1) (ty := .boolean) hx hb hr (by decide) (fun t ht hW => ⟨⟨_, S20, rfl, h, by rw [ht]; exact hP, hD, hN⟩, hS.F ht⟩) hS.2.2 dX9_isResultKnown_66
    · have h := h.2 c_1
      refine lv_aload_n hx hb dX9_isResultKnown_5 rfl (lv_at hl 0 rfl) ?_
      refine lv_iload_n hx hb dX9_isResultKnown_6 rfl (lv_at hl 3 rfl) ?_
      obtain ⟨p_21, hp_21⟩ := cget_15 cI cZ cP cF q S
      have hi_21 : cin S 15 0 := Or.inl ⟨by decide, rfl⟩
      refine vp_callSi (va_Run.run (va_runV (As := [.int a3]) (rest := []) ⟨hx, hb, hml, hown, hts⟩ (zd_X9_worthOf l D cI cZ cP cF q S a3  _ h) (cwV 1 hts zg_zd_X9_isResultKnown_zd_X9_worthOf_157 rfl rfl rfl (by decide +kernel) ⟨Nat.le_of_ble_eq_true rfl, Nat.le_of_ble_eq_true rfl⟩) ⟨zCR, va_recv hK hP (ci := 9) (q0 := p_21) rfl hp_21, fun U hU hW => ⟨rfl, by rw [hU]; exact hP, hE.warm hW⟩⟩ rfl rfl hl.1 rfl (lv_room (Nat.le_of_ble_eq_true rfl)) dX9_isResultKnown_7 ⟨Nat.le_of_ble_eq_true rfl, Nat.le_of_ble_eq_true rfl⟩)) (fun r22 h => ?_)
      refine lv_if_ne (tgt := 17) hx hb dX9_isResultKnown_10 (by decide) (fun c_23 => ?_) (fun c_23 => ?_)
      · have h := h.1 c_23
        refine lv_iconst (v := 0) hx hb dX9_isResultKnown_17 (by decide) ?_
        refine lv_istore (lv' := [(5, .int 0), (0, .ref (q 15 0)), (1, .int a1), (2, .int a2), (3, .int a3), (4, .int a4)]) hx hb dX9_isResultKnown_18 hl (by decide) rfl (fun ls hl => ?_)
        refine lv_aload_n hx hb dX9_isResultKnown_20 rfl (lv_at hl 1 rfl) ?_
        refine lv_iload_n hx hb dX9_isResultKnown_21 rfl (lv_at hl 3 rfl) ?_
        obtain ⟨p_24, hp_24⟩ := cget_15 cI cZ cP cF q S
        have hi_24 : cin S 15 0 := Or.inl ⟨by decide, rfl⟩
        refine vp_callSi (va_Run.run (va_runV (As := [.int a2]) (rest := []) ⟨hx, hb, hml, hown, hts⟩ (zd_X9_isKnown l D cI cZ cP cF q S a2  _ h) (cwV 1 hts zg_zd_X9_isResultKnown_zd_X9_isKnown_154 rfl rfl rfl (by decide +kernel) ⟨Nat.le_of_ble_eq_true rfl, Nat.le_of_ble_eq_true rfl⟩) ⟨zCR, va_recv hK hP (ci := 9) (q0 := p_24) rfl hp_24, fun U hU hW => ⟨rfl, by rw [hU]; exact hP, hE.warm hW⟩⟩ rfl rfl hl.1 rfl (lv_room (Nat.le_of_ble_eq_true rfl)) dX9_isResultKnown_22 ⟨Nat.le_of_ble_eq_true rfl, Nat.le_of_ble_eq_true rfl⟩)) (fun r25 h => ?_)
        refine lv_if_eq (tgt := 67) hx hb dX9_isResultKnown_25 (by decide) (fun c_26 => ?_) (fun c_26 => ?_)
        · have h := h.1 c_26
          refine lv_aload_n hx hb dX9_isResultKnown_67 rfl (lv_at hl 1 rfl) ?_
          refine lv_iload_n hx hb dX9_isResultKnown_68 rfl (lv_at hl 3 rfl) ?_
          refine lv_iload_n hx hb dX9_isResultKnown_69 rfl (lv_at hl 4 rfl) ?_
          refine lv_iload hx hb dX9_isResultKnown_70 (lv_at hl 5 rfl) ?_
          obtain ⟨p_27, hp_27⟩ := cget_15 cI cZ cP cF q S
          have hi_27 : cin S 15 0 := Or.inl ⟨by decide, rfl⟩
          have hFc := zm_free hD hS hA
          refine va_callv (va_runV (As := [.int a2, .int a3, .int a4]) (rest := []) ⟨hx, hb, hml, hown, hts⟩ (zd_X9_lay l D cI cZ cP cF q S a2 a3 a4 H.size _ h) (cwV 3 hts zg_zd_X9_isResultKnown_zd_X9_lay_66 rfl rfl rfl (by decide +kernel) ⟨Nat.le_of_ble_eq_true rfl, Nat.le_of_ble_eq_true rfl⟩) ⟨zCW, va_recv hK hP (ci := 9) (q0 := p_27) rfl hp_27, fun U hU hW => ⟨rfl, by rw [hU], by rw [hU]; exact hP, hE.warm hW, hD.weaken (fun _ _ _ _ => trivial)⟩⟩ rfl rfl hl.1 rfl (lv_room (Nat.le_of_ble_eq_true rfl)) dX9_isResultKnown_72 ⟨Nat.le_of_ble_eq_true rfl, Nat.le_of_ble_eq_true rfl⟩) hS (fun q _ h => hFc q h) hFc (fun S28 t H locs ht hvm h hB hz1 hk1 hS => ?_)
          obtain ⟨hP, hD1, hN1⟩ := hB
          rw [ht] at hP
          have hD := hD1.weaken (fun k q _ hq => hFc q.1 hq)
          have hN := hN1.trans hN
          refine lv_iconst (v := 0) hx hb dX9_isResultKnown_75 (by decide) ?_
          exact W.zret (v := 0) (ty := .boolean) hx hb hr (by decide) (fun t ht hW => ⟨⟨_, S28, rfl, h, by rw [ht]; exact hP, hD, hN⟩, hS.F ht⟩) hS.2.2 dX9_isResultKnown_76
        · have h := h.2 c_26
          refine lv_aload_n hx hb dX9_isResultKnown_28 rfl (lv_at hl 1 rfl) ?_
          refine lv_iload_n hx hb dX9_isResultKnown_29 rfl (lv_at hl 4 rfl) ?_
          obtain ⟨p_29, hp_29⟩ := cget_15 cI cZ cP cF q S
          have hi_29 : cin S 15 0 := Or.inl ⟨by decide, rfl⟩
          refine vp_callSi (va_Run.run (va_runV (As := [.int a3]) (rest := []) ⟨hx, hb, hml, hown, hts⟩ (zd_X9_isKnown l D cI cZ cP cF q S a3  _ h) (cwV 1 hts zg_zd_X9_isResultKnown_zd_X9_isKnown_154 rfl rfl rfl (by decide +kernel) ⟨Nat.le_of_ble_eq_true rfl, Nat.le_of_ble_eq_true rfl⟩) ⟨zCR, va_recv hK hP (ci := 9) (q0 := p_29) rfl hp_29, fun U hU hW => ⟨rfl, by rw [hU]; exact hP, hE.warm hW⟩⟩ rfl rfl hl.1 rfl (lv_room (Nat.le_of_ble_eq_true rfl)) dX9_isResultKnown_30 ⟨Nat.le_of_ble_eq_true rfl, Nat.le_of_ble_eq_true rfl⟩)) (fun r30 h => ?_)
          refine lv_if_eq (tgt := 67) hx hb dX9_isResultKnown_33 (by decide) (fun c_31 => ?_) (fun c_31 => ?_)
          · have h := h.1 c_31
            refine lv_aload_n hx hb dX9_isResultKnown_67 rfl (lv_at hl 1 rfl) ?_
            refine lv_iload_n hx hb dX9_isResultKnown_68 rfl (lv_at hl 3 rfl) ?_
            refine lv_iload_n hx hb dX9_isResultKnown_69 rfl (lv_at hl 4 rfl) ?_
            refine lv_iload hx hb dX9_isResultKnown_70 (lv_at hl 5 rfl) ?_
            obtain ⟨p_32, hp_32⟩ := cget_15 cI cZ cP cF q S
            have hi_32 : cin S 15 0 := Or.inl ⟨by decide, rfl⟩
            have hFc := zm_free hD hS hA
            refine va_callv (va_runV (As := [.int a2, .int a3, .int a4]) (rest := []) ⟨hx, hb, hml, hown, hts⟩ (zd_X9_lay l D cI cZ cP cF q S a2 a3 a4 H.size _ h) (cwV 3 hts zg_zd_X9_isResultKnown_zd_X9_lay_66 rfl rfl rfl (by decide +kernel) ⟨Nat.le_of_ble_eq_true rfl, Nat.le_of_ble_eq_true rfl⟩) ⟨zCW, va_recv hK hP (ci := 9) (q0 := p_32) rfl hp_32, fun U hU hW => ⟨rfl, by rw [hU], by rw [hU]; exact hP, hE.warm hW, hD.weaken (fun _ _ _ _ => trivial)⟩⟩ rfl rfl hl.1 rfl (lv_room (Nat.le_of_ble_eq_true rfl)) dX9_isResultKnown_72 ⟨Nat.le_of_ble_eq_true rfl, Nat.le_of_ble_eq_true rfl⟩) hS (fun q _ h => hFc q h) hFc (fun S33 t H locs ht hvm h hB hz1 hk1 hS => ?_)
            obtain ⟨hP, hD1, hN1⟩ := hB
            rw [ht] at hP
            have hD := hD1.weaken (fun k q _ hq => hFc q.1 hq)
            have hN := hN1.trans hN
            refine lv_iconst (v := 0) hx hb dX9_isResultKnown_75 (by decide) ?_
            exact W.zret (v := 0) (ty := .boolean) hx hb hr (by decide) (fun t ht hW => ⟨⟨_, S33, rfl, h, by rw [ht]; exact hP, hD, hN⟩, hS.F ht⟩) hS.2.2 dX9_isResultKnown_76
          · have h := h.2 c_31
            refine lv_iload hx hb dX9_isResultKnown_36 (lv_at hl 0 rfl) ?_
            refine lv_if_ne (tgt := 67) hx hb dX9_isResultKnown_38 (by decide) (fun c => absurd (by decide) c) (fun _ => ?_)
            refine lv_aload_n hx hb dX9_isResultKnown_41 rfl (lv_at hl 1 rfl) ?_
            refine lv_iload_n hx hb dX9_isResultKnown_42 rfl (lv_at hl 3 rfl) ?_
            refine lv_iload_n hx hb dX9_isResultKnown_43 rfl (lv_at hl 2 rfl) ?_
            refine lv_aload_n hx hb dX9_isResultKnown_44 rfl (lv_at hl 1 rfl) ?_
            refine lv_iload_n hx hb dX9_isResultKnown_45 rfl (lv_at hl 3 rfl) ?_
            obtain ⟨p_34, hp_34⟩ := cget_15 cI cZ cP cF q S
            have hi_34 : cin S 15 0 := Or.inl ⟨by decide, rfl⟩
            refine vp_callSi (va_Run.run (va_runV (As := [.int a2]) (rest := [.int a1, .int a2, .ref (q 15 0)]) ⟨hx, hb, hml, hown, hts⟩ (zd_X9_worthOf l D cI cZ cP cF q S a2  _ h) (cwV 1 hts zg_zd_X9_isResultKnown_zd_X9_worthOf_157 rfl rfl rfl (by decide +kernel) ⟨Nat.le_of_ble_eq_true rfl, Nat.le_of_ble_eq_true rfl⟩) ⟨zCR, va_recv hK hP (ci := 9) (q0 := p_34) rfl hp_34, fun U hU hW => ⟨rfl, by rw [hU]; exact hP, hE.warm hW⟩⟩ rfl rfl hl.1 rfl (lv_room (Nat.le_of_ble_eq_true rfl)) dX9_isResultKnown_46 ⟨Nat.le_of_ble_eq_true rfl, Nat.le_of_ble_eq_true rfl⟩)) (fun r35 h => ?_)
            refine lv_aload_n hx hb dX9_isResultKnown_49 rfl (lv_at hl 1 rfl) ?_
            refine lv_iload_n hx hb dX9_isResultKnown_50 rfl (lv_at hl 4 rfl) ?_
            obtain ⟨p_36, hp_36⟩ := cget_15 cI cZ cP cF q S
            have hi_36 : cin S 15 0 := Or.inl ⟨by decide, rfl⟩
            refine vp_callSi (va_Run.run (va_runV (As := [.int a3]) (rest := [.int r35, .int a1, .int a2, .ref (q 15 0)]) ⟨hx, hb, hml, hown, hts⟩ (zd_X9_worthOf l D cI cZ cP cF q S a3  _ h) (cwV 1 hts zg_zd_X9_isResultKnown_zd_X9_worthOf_157 rfl rfl rfl (by decide +kernel) ⟨Nat.le_of_ble_eq_true rfl, Nat.le_of_ble_eq_true rfl⟩) ⟨zCR, va_recv hK hP (ci := 9) (q0 := p_36) rfl hp_36, fun U hU hW => ⟨rfl, by rw [hU]; exact hP, hE.warm hW⟩⟩ rfl rfl hl.1 rfl (lv_room (Nat.le_of_ble_eq_true rfl)) dX9_isResultKnown_51 ⟨Nat.le_of_ble_eq_true rfl, Nat.le_of_ble_eq_true rfl⟩)) (fun r37 h => ?_)
            have hP0 : va_P D vwCl [] H := fun k q h => by simp at h
            refine vp_callSi (va_Run.run (va_runSN (As := [.int a1, .int r35, .int r37]) (rest := [.int a2, .ref (q 15 0)]) ⟨hx, hb, hml, hown, hts⟩ (zd_X11_reckoned l D cI cZ cP cF a1 r35 r37  _ h) ⟨va_cnB 3 hts zg_zd_X9_isResultKnown_zd_X11_reckoned_160 rfl rfl rfl hE.nX9_160 (hts (.initialized RX11) (List.mem_of_getElem? (i := 30) rfl)) (by decide +kernel) ⟨Nat.le_of_ble_eq_true rfl, Nat.le_of_ble_eq_true rfl⟩, (hts (.static yX11_reckoned) (List.mem_of_getElem? (i := 29) rfl)), trivial⟩ ⟨zCR, fun U hU hW => ⟨rfl, by rw [hU]; exact hP0, hE.warm hW⟩⟩ rfl rfl hl.1 rfl (lv_room (Nat.le_of_ble_eq_true rfl)) dX9_isResultKnown_54 ⟨Nat.le_of_ble_eq_true rfl, Nat.le_of_ble_eq_true rfl⟩)) (fun r38 h => ?_)
            obtain ⟨p_39, hp_39⟩ := cget_15 cI cZ cP cF q S
            have hi_39 : cin S 15 0 := Or.inl ⟨by decide, rfl⟩
            have hFc := zm_free hD hS hA
            refine va_callv (va_runV (As := [.int a2, .int r38]) (rest := []) ⟨hx, hb, hml, hown, hts⟩ (zd_X9_know l D cI cZ cP cF q S a2 r38 H.size _ h) (cwV 2 hts zg_zd_X9_isResultKnown_zd_X9_know_125 rfl rfl rfl (by decide +kernel) ⟨Nat.le_of_ble_eq_true rfl, Nat.le_of_ble_eq_true rfl⟩) ⟨zCW, va_recv hK hP (ci := 9) (q0 := p_39) rfl hp_39, fun U hU hW => ⟨rfl, by rw [hU], by rw [hU]; exact hP, hE.warm hW, hD.weaken (fun _ _ _ _ => trivial)⟩⟩ rfl rfl hl.1 rfl (lv_room (Nat.le_of_ble_eq_true rfl)) dX9_isResultKnown_57 ⟨Nat.le_of_ble_eq_true rfl, Nat.le_of_ble_eq_true rfl⟩) hS (fun q _ h => hFc q h) hFc (fun S40 t H locs ht hvm h hB hz1 hk1 hS => ?_)
            obtain ⟨hP, hD1, hN1⟩ := hB
            rw [ht] at hP
            have hD := hD1.weaken (fun k q _ hq => hFc q.1 hq)
            have hN := hN1.trans hN
            refine lv_aload_n hx hb dX9_isResultKnown_60 rfl (lv_at hl 1 rfl) ?_
            refine lv_iload_n hx hb dX9_isResultKnown_61 rfl (lv_at hl 4 rfl) ?_
            obtain ⟨p_41, hp_41⟩ := cget_15 cI cZ cP cF q S40
            have hi_41 : cin S40 15 0 := Or.inl ⟨by decide, rfl⟩
            have hFc := zm_free hD hS hA
            refine va_callv (va_runV (As := [.int a3]) (rest := []) ⟨hx, hb, hml, hown, hts⟩ (zd_X9_forget l D cI cZ cP cF q S40 a3 H.size _ h) (cwV 1 hts zg_zd_X9_isResultKnown_zd_X9_forget_140 rfl rfl rfl (by decide +kernel) ⟨Nat.le_of_ble_eq_true rfl, Nat.le_of_ble_eq_true rfl⟩) ⟨zCW, va_recv hK hP (ci := 9) (q0 := p_41) rfl hp_41, fun U hU hW => ⟨rfl, by rw [hU], by rw [hU]; exact hP, hE.warm hW, hD.weaken (fun _ _ _ _ => trivial)⟩⟩ rfl rfl hl.1 rfl (lv_room (Nat.le_of_ble_eq_true rfl)) dX9_isResultKnown_62 ⟨Nat.le_of_ble_eq_true rfl, Nat.le_of_ble_eq_true rfl⟩) hS (fun q _ h => hFc q h) hFc (fun S42 t H locs ht hvm h hB hz1 hk1 hS => ?_)
            obtain ⟨hP, hD1, hN1⟩ := hB
            rw [ht] at hP
            have hD := hD1.weaken (fun k q _ hq => hFc q.1 hq)
            have hN := hN1.trans hN
            refine lv_iconst (v := 1) hx hb dX9_isResultKnown_65 (by decide) ?_
            exact W.zret (v := 1) (ty := .boolean) hx hb hr (by decide) (fun t ht hW => ⟨⟨_, S42, rfl, h, by rw [ht]; exact hP, hD, hN⟩, hS.F ht⟩) hS.2.2 dX9_isResultKnown_66
      · have h := h.2 c_23
        refine lv_iconst (v := 1) hx hb dX9_isResultKnown_13 (by decide) ?_
        refine lv_goto (tgt := 18) hx hb dX9_isResultKnown_14 (by decide) ?_
        refine lv_istore (lv' := [(5, .int 1), (0, .ref (q 15 0)), (1, .int a1), (2, .int a2), (3, .int a3), (4, .int a4)]) hx hb dX9_isResultKnown_18 hl (by decide) rfl (fun ls hl => ?_)
        refine lv_aload_n hx hb dX9_isResultKnown_20 rfl (lv_at hl 1 rfl) ?_
        refine lv_iload_n hx hb dX9_isResultKnown_21 rfl (lv_at hl 3 rfl) ?_
        obtain ⟨p_43, hp_43⟩ := cget_15 cI cZ cP cF q S
        have hi_43 : cin S 15 0 := Or.inl ⟨by decide, rfl⟩
        refine vp_callSi (va_Run.run (va_runV (As := [.int a2]) (rest := []) ⟨hx, hb, hml, hown, hts⟩ (zd_X9_isKnown l D cI cZ cP cF q S a2  _ h) (cwV 1 hts zg_zd_X9_isResultKnown_zd_X9_isKnown_154 rfl rfl rfl (by decide +kernel) ⟨Nat.le_of_ble_eq_true rfl, Nat.le_of_ble_eq_true rfl⟩) ⟨zCR, va_recv hK hP (ci := 9) (q0 := p_43) rfl hp_43, fun U hU hW => ⟨rfl, by rw [hU]; exact hP, hE.warm hW⟩⟩ rfl rfl hl.1 rfl (lv_room (Nat.le_of_ble_eq_true rfl)) dX9_isResultKnown_22 ⟨Nat.le_of_ble_eq_true rfl, Nat.le_of_ble_eq_true rfl⟩)) (fun r44 h => ?_)
        refine lv_if_eq (tgt := 67) hx hb dX9_isResultKnown_25 (by decide) (fun c_45 => ?_) (fun c_45 => ?_)
        · have h := h.1 c_45
          refine lv_aload_n hx hb dX9_isResultKnown_67 rfl (lv_at hl 1 rfl) ?_
          refine lv_iload_n hx hb dX9_isResultKnown_68 rfl (lv_at hl 3 rfl) ?_
          refine lv_iload_n hx hb dX9_isResultKnown_69 rfl (lv_at hl 4 rfl) ?_
          refine lv_iload hx hb dX9_isResultKnown_70 (lv_at hl 5 rfl) ?_
          obtain ⟨p_46, hp_46⟩ := cget_15 cI cZ cP cF q S
          have hi_46 : cin S 15 0 := Or.inl ⟨by decide, rfl⟩
          have hFc := zm_free hD hS hA
          refine va_callv (va_runV (As := [.int a2, .int a3, .int a4]) (rest := []) ⟨hx, hb, hml, hown, hts⟩ (zd_X9_lay l D cI cZ cP cF q S a2 a3 a4 H.size _ h) (cwV 3 hts zg_zd_X9_isResultKnown_zd_X9_lay_66 rfl rfl rfl (by decide +kernel) ⟨Nat.le_of_ble_eq_true rfl, Nat.le_of_ble_eq_true rfl⟩) ⟨zCW, va_recv hK hP (ci := 9) (q0 := p_46) rfl hp_46, fun U hU hW => ⟨rfl, by rw [hU], by rw [hU]; exact hP, hE.warm hW, hD.weaken (fun _ _ _ _ => trivial)⟩⟩ rfl rfl hl.1 rfl (lv_room (Nat.le_of_ble_eq_true rfl)) dX9_isResultKnown_72 ⟨Nat.le_of_ble_eq_true rfl, Nat.le_of_ble_eq_true rfl⟩) hS (fun q _ h => hFc q h) hFc (fun S47 t H locs ht hvm h hB hz1 hk1 hS => ?_)
          obtain ⟨hP, hD1, hN1⟩ := hB
          rw [ht] at hP
          have hD := hD1.weaken (fun k q _ hq => hFc q.1 hq)
          have hN := hN1.trans hN
          refine lv_iconst (v := 0) hx hb dX9_isResultKnown_75 (by decide) ?_
          exact W.zret (v := 0) (ty := .boolean) hx hb hr (by decide) (fun t ht hW => ⟨⟨_, S47, rfl, h, by rw [ht]; exact hP, hD, hN⟩, hS.F ht⟩) hS.2.2 dX9_isResultKnown_76
        · have h := h.2 c_45
          refine lv_aload_n hx hb dX9_isResultKnown_28 rfl (lv_at hl 1 rfl) ?_
          refine lv_iload_n hx hb dX9_isResultKnown_29 rfl (lv_at hl 4 rfl) ?_
          obtain ⟨p_48, hp_48⟩ := cget_15 cI cZ cP cF q S
          have hi_48 : cin S 15 0 := Or.inl ⟨by decide, rfl⟩
          refine vp_callSi (va_Run.run (va_runV (As := [.int a3]) (rest := []) ⟨hx, hb, hml, hown, hts⟩ (zd_X9_isKnown l D cI cZ cP cF q S a3  _ h) (cwV 1 hts zg_zd_X9_isResultKnown_zd_X9_isKnown_154 rfl rfl rfl (by decide +kernel) ⟨Nat.le_of_ble_eq_true rfl, Nat.le_of_ble_eq_true rfl⟩) ⟨zCR, va_recv hK hP (ci := 9) (q0 := p_48) rfl hp_48, fun U hU hW => ⟨rfl, by rw [hU]; exact hP, hE.warm hW⟩⟩ rfl rfl hl.1 rfl (lv_room (Nat.le_of_ble_eq_true rfl)) dX9_isResultKnown_30 ⟨Nat.le_of_ble_eq_true rfl, Nat.le_of_ble_eq_true rfl⟩)) (fun r49 h => ?_)
          refine lv_if_eq (tgt := 67) hx hb dX9_isResultKnown_33 (by decide) (fun c_50 => ?_) (fun c_50 => ?_)
          · have h := h.1 c_50
            refine lv_aload_n hx hb dX9_isResultKnown_67 rfl (lv_at hl 1 rfl) ?_
            refine lv_iload_n hx hb dX9_isResultKnown_68 rfl (lv_at hl 3 rfl) ?_
            refine lv_iload_n hx hb dX9_isResultKnown_69 rfl (lv_at hl 4 rfl) ?_
            refine lv_iload hx hb dX9_isResultKnown_70 (lv_at hl 5 rfl) ?_
            obtain ⟨p_51, hp_51⟩ := cget_15 cI cZ cP cF q S
            have hi_51 : cin S 15 0 := Or.inl ⟨by decide, rfl⟩
            have hFc := zm_free hD hS hA
            refine va_callv (va_runV (As := [.int a2, .int a3, .int a4]) (rest := []) ⟨hx, hb, hml, hown, hts⟩ (zd_X9_lay l D cI cZ cP cF q S a2 a3 a4 H.size _ h) (cwV 3 hts zg_zd_X9_isResultKnown_zd_X9_lay_66 rfl rfl rfl (by decide +kernel) ⟨Nat.le_of_ble_eq_true rfl, Nat.le_of_ble_eq_true rfl⟩) ⟨zCW, va_recv hK hP (ci := 9) (q0 := p_51) rfl hp_51, fun U hU hW => ⟨rfl, by rw [hU], by rw [hU]; exact hP, hE.warm hW, hD.weaken (fun _ _ _ _ => trivial)⟩⟩ rfl rfl hl.1 rfl (lv_room (Nat.le_of_ble_eq_true rfl)) dX9_isResultKnown_72 ⟨Nat.le_of_ble_eq_true rfl, Nat.le_of_ble_eq_true rfl⟩) hS (fun q _ h => hFc q h) hFc (fun S52 t H locs ht hvm h hB hz1 hk1 hS => ?_)
            obtain ⟨hP, hD1, hN1⟩ := hB
            rw [ht] at hP
            have hD := hD1.weaken (fun k q _ hq => hFc q.1 hq)
            have hN := hN1.trans hN
            refine lv_iconst (v := 0) hx hb dX9_isResultKnown_75 (by decide) ?_
            exact W.zret (v := 0) (ty := .boolean) hx hb hr (by decide) (fun t ht hW => ⟨⟨_, S52, rfl, h, by rw [ht]; exact hP, hD, hN⟩, hS.F ht⟩) hS.2.2 dX9_isResultKnown_76
          · have h := h.2 c_50
            refine lv_iload hx hb dX9_isResultKnown_36 (lv_at hl 0 rfl) ?_
            refine lv_if_ne (tgt := 67) hx hb dX9_isResultKnown_38 (by decide) (fun _ => ?_) (fun c => absurd c (by decide))
            refine lv_aload_n hx hb dX9_isResultKnown_67 rfl (lv_at hl 1 rfl) ?_
            refine lv_iload_n hx hb dX9_isResultKnown_68 rfl (lv_at hl 3 rfl) ?_
            refine lv_iload_n hx hb dX9_isResultKnown_69 rfl (lv_at hl 4 rfl) ?_
            refine lv_iload hx hb dX9_isResultKnown_70 (lv_at hl 5 rfl) ?_
            obtain ⟨p_53, hp_53⟩ := cget_15 cI cZ cP cF q S
            have hi_53 : cin S 15 0 := Or.inl ⟨by decide, rfl⟩
            have hFc := zm_free hD hS hA
            refine va_callv (va_runV (As := [.int a2, .int a3, .int a4]) (rest := []) ⟨hx, hb, hml, hown, hts⟩ (zd_X9_lay l D cI cZ cP cF q S a2 a3 a4 H.size _ h) (cwV 3 hts zg_zd_X9_isResultKnown_zd_X9_lay_66 rfl rfl rfl (by decide +kernel) ⟨Nat.le_of_ble_eq_true rfl, Nat.le_of_ble_eq_true rfl⟩) ⟨zCW, va_recv hK hP (ci := 9) (q0 := p_53) rfl hp_53, fun U hU hW => ⟨rfl, by rw [hU], by rw [hU]; exact hP, hE.warm hW, hD.weaken (fun _ _ _ _ => trivial)⟩⟩ rfl rfl hl.1 rfl (lv_room (Nat.le_of_ble_eq_true rfl)) dX9_isResultKnown_72 ⟨Nat.le_of_ble_eq_true rfl, Nat.le_of_ble_eq_true rfl⟩) hS (fun q _ h => hFc q h) hFc (fun S54 t H locs ht hvm h hB hz1 hk1 hS => ?_)
            obtain ⟨hP, hD1, hN1⟩ := hB
            rw [ht] at hP
            have hD := hD1.weaken (fun k q _ hq => hFc q.1 hq)
            have hN := hN1.trans hN
            refine lv_iconst (v := 0) hx hb dX9_isResultKnown_75 (by decide) ?_
            exact W.zret (v := 0) (ty := .boolean) hx hb hr (by decide) (fun t ht hW => ⟨⟨_, S54, rfl, h, by rw [ht]; exact hP, hD, hN⟩, hS.F ht⟩) hS.2.2 dX9_isResultKnown_76
  exact key _ _ hP va_S.rf
