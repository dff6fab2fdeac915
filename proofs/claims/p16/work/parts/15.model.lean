def wp_X12_part_ (S : MST) (a1 : Int32) (a2 : Int32) (a3 : Int32) (Post : Int32 → Prop) : Prop :=
  wp_X12_isMethod S a1 (fun r1 => (((r1 : Int32) = 0) → (Post (-2147483648))) ∧ ((¬ ((r1 : Int32) = 0)) → (wp_X12_partsOf S a1 (fun r3 => wp_X12_in ((a2 : Int32).toInt64) 0 ((r3 - 1 : Int32).toInt64) (fun r4 => ((¬ ((r4 : Int32) = 0)) → (wp_X12_codeNow S a1 (fun r6 => ((a3 : Int32).toInt < 0 ∨ 4 < (a3 : Int32).toInt → (Post (-2147483648))) ∧ (a3 = 0 → (vp_in ((640 * r6) + a2) 61440 ∧ (Post (S 25 ((640 * r6) + a2 : Int32).toNatClampNeg)))) ∧ (a3 = 1 → (vp_in ((640 * r6) + a2) 61440 ∧ (Post (S 26 ((640 * r6) + a2 : Int32).toNatClampNeg)))) ∧ (a3 = 2 → (vp_in ((640 * r6) + a2) 61440 ∧ (Post (S 27 ((640 * r6) + a2 : Int32).toNatClampNeg)))) ∧ (a3 = 3 → (vp_in ((640 * r6) + a2) 61440 ∧ (Post (S 28 ((640 * r6) + a2 : Int32).toNatClampNeg)))) ∧ (a3 = 4 → (vp_in ((640 * r6) + a2) 61440 ∧ (Post (S 29 ((640 * r6) + a2 : Int32).toNatClampNeg))))))) ∧ (((r4 : Int32) = 0) → (Post (-2147483648))))))))
def zw_zd_X12_part__w0 : List Cond := [.code yX12_isMethod cX12_isMethod 2 (some .boolean), .fieldLink RX12 140 "TemplateForgeModel" "methods" "I", .code yX12_in cX12_in 6 (some .boolean), .methodLink RX12 134 yX12_in, .static yX12_in, .initialized RX12, .methodLink RX12 144 yX12_isMethod, .instanceMethod yX12_isMethod, .selects RX12 yX12_isMethod yX12_isMethod, .constant RX12 177 (-2147483648), .code yX12_partsOf cX12_partsOf 2 (some .int), .fieldLink RX12 56 "TemplateForgeModel" "madeCodes" "[I", .fieldLink RX12 74 "TemplateForgeModel" "partMany" "[I", .code yX12_codeNow cX12_codeNow 2 (some .int), .methodLink RX12 217 yX12_codeNow, .instanceMethod yX12_codeNow]
def zw_zd_X12_part__w1 : List Cond := [.selects RX12 yX12_codeNow yX12_codeNow, .methodLink RX12 294 yX12_partsOf, .instanceMethod yX12_partsOf, .selects RX12 yX12_partsOf yX12_partsOf, .fieldLink RX12 81 "TemplateForgeModel" "partOp" "[I", .fieldLink RX12 84 "TemplateForgeModel" "partD" "[I", .fieldLink RX12 87 "TemplateForgeModel" "partA" "[I", .fieldLink RX12 90 "TemplateForgeModel" "partB" "[I", .fieldLink RX12 93 "TemplateForgeModel" "partOf" "[I"]
def zw_zd_X12_part_ : List Cond := .code yX12_part_ cX12_part_ 5 (some .int) :: ((zw_zd_X12_part__w0 ++ (zw_zd_X12_part__w1)) ++ wsX120)
set_option maxRecDepth 100000 in
theorem zg_zd_X12_part__zd_X12_isMethod_144_a : GoodIn zw_zd_X12_part_ [.methodLink RX12 144 yX12_isMethod, .instanceMethod yX12_isMethod, .selects RX12 yX12_isMethod yX12_isMethod, .initialized RX12] := goodIn_r _ [7, 8, 9, 6] rfl (by decide +kernel)
set_option maxRecDepth 100000 in
theorem zg_zd_X12_part__zd_X12_isMethod_144_c : GoodIn zw_zd_X12_part_ [.code yX12_isMethod cX12_isMethod 2 (some .boolean)] := goodIn_r _ [1] rfl (by decide +kernel)
set_option maxRecDepth 100000 in
theorem zg_zd_X12_part__zd_X12_isMethod_144_0 : GoodIn zw_zd_X12_part_ zw_zd_X12_isMethod_w0 := goodIn_r _ [2, 3, 4, 5, 6] rfl (by decide +kernel)
theorem zg_zd_X12_part__zd_X12_isMethod_144 : GoodIn zw_zd_X12_part_ (wsV RX12 144 RX12 yX12_isMethod zw_zd_X12_isMethod) := goodIn_app zg_zd_X12_part__zd_X12_isMethod_144_a (goodIn_ca (a := (zw_zd_X12_isMethod_w0)) (show GoodIn zw_zd_X12_part_ (.code yX12_isMethod cX12_isMethod 2 (some .boolean) :: (zw_zd_X12_isMethod_w0)) from goodIn_app zg_zd_X12_part__zd_X12_isMethod_144_c (zg_zd_X12_part__zd_X12_isMethod_144_0)) (fun w h => ⟨(fun _ h => List.mem_cons_of_mem _ (List.mem_append_right _ h)) w h, good_of_word (List.all_eq_true.mp zgw_X12 w h)⟩))
set_option maxRecDepth 100000 in
theorem zg_zd_X12_part__zd_X12_partsOf_294_a : GoodIn zw_zd_X12_part_ [.methodLink RX12 294 yX12_partsOf, .instanceMethod yX12_partsOf, .selects RX12 yX12_partsOf yX12_partsOf, .initialized RX12] := goodIn_r _ [18, 19, 20, 6] rfl (by decide +kernel)
set_option maxRecDepth 100000 in
theorem zg_zd_X12_part__zd_X12_partsOf_294_c : GoodIn zw_zd_X12_part_ [.code yX12_partsOf cX12_partsOf 2 (some .int)] := goodIn_r _ [11] rfl (by decide +kernel)
set_option maxRecDepth 100000 in
theorem zg_zd_X12_part__zd_X12_partsOf_294_0 : GoodIn zw_zd_X12_part_ zw_zd_X12_partsOf_w0 := goodIn_r _ [12, 13, 14, 15, 16, 17, 6] rfl (by decide +kernel)
theorem zg_zd_X12_part__zd_X12_partsOf_294 : GoodIn zw_zd_X12_part_ (wsV RX12 294 RX12 yX12_partsOf zw_zd_X12_partsOf) := goodIn_app zg_zd_X12_part__zd_X12_partsOf_294_a (goodIn_ca (a := (zw_zd_X12_partsOf_w0)) (show GoodIn zw_zd_X12_part_ (.code yX12_partsOf cX12_partsOf 2 (some .int) :: (zw_zd_X12_partsOf_w0)) from goodIn_app zg_zd_X12_part__zd_X12_partsOf_294_c (zg_zd_X12_part__zd_X12_partsOf_294_0)) (fun w h => ⟨(fun _ h => List.mem_cons_of_mem _ (List.mem_append_right _ h)) w h, good_of_word (List.all_eq_true.mp zgw_X12 w h)⟩))
set_option maxRecDepth 100000 in
theorem zg_zd_X12_part__zd_X12_in_134_a : GoodIn zw_zd_X12_part_ [.methodLink RX12 134 yX12_in, .static yX12_in, .initialized RX12] := goodIn_r _ [4, 5, 6] rfl (by decide +kernel)
set_option maxRecDepth 100000 in
theorem zg_zd_X12_part__zd_X12_in_134_c : GoodIn zw_zd_X12_part_ [.code yX12_in cX12_in 6 (some .boolean)] := goodIn_r _ [3] rfl (by decide +kernel)
theorem zg_zd_X12_part__zd_X12_in_134 : GoodIn zw_zd_X12_part_ (va_wsS RX12 134 yX12_in zw_zd_X12_in) := goodIn_app zg_zd_X12_part__zd_X12_in_134_a (show GoodIn zw_zd_X12_part_ (.code yX12_in cX12_in 6 (some .boolean) :: (([] : List Cond))) from zg_zd_X12_part__zd_X12_in_134_c)
set_option maxRecDepth 100000 in
theorem zg_zd_X12_part__zd_X12_codeNow_217_a : GoodIn zw_zd_X12_part_ [.methodLink RX12 217 yX12_codeNow, .instanceMethod yX12_codeNow, .selects RX12 yX12_codeNow yX12_codeNow, .initialized RX12] := goodIn_r _ [15, 16, 17, 6] rfl (by decide +kernel)
set_option maxRecDepth 100000 in
theorem zg_zd_X12_part__zd_X12_codeNow_217_c : GoodIn zw_zd_X12_part_ [.code yX12_codeNow cX12_codeNow 2 (some .int)] := goodIn_r _ [14] rfl (by decide +kernel)
set_option maxRecDepth 100000 in
theorem zg_zd_X12_part__zd_X12_codeNow_217_0 : GoodIn zw_zd_X12_part_ zw_zd_X12_codeNow_w0 := goodIn_r _ [12] rfl (by decide +kernel)
theorem zg_zd_X12_part__zd_X12_codeNow_217 : GoodIn zw_zd_X12_part_ (wsV RX12 217 RX12 yX12_codeNow zw_zd_X12_codeNow) := goodIn_app zg_zd_X12_part__zd_X12_codeNow_217_a (goodIn_ca (a := (zw_zd_X12_codeNow_w0)) (show GoodIn zw_zd_X12_part_ (.code yX12_codeNow cX12_codeNow 2 (some .int) :: (zw_zd_X12_codeNow_w0)) from goodIn_app zg_zd_X12_part__zd_X12_codeNow_217_c (zg_zd_X12_part__zd_X12_codeNow_217_0)) (fun w h => ⟨(fun _ h => List.mem_cons_of_mem _ (List.mem_append_right _ h)) w h, good_of_word (List.all_eq_true.mp zgw_X12 w h)⟩))
set_option maxHeartbeats 16000000 in
set_option maxRecDepth 100000 in
theorem zd_X12_part_ (l : Launch) (D : va_G) (cI cZ cP cF : Nat) (h0 : Nat) (q : Nat → Nat) (S : MST) (a1 : Int32) (a2 : Int32) (a3 : Int32) (Post : Int32 → Prop) (h : wp_X12_part_ S a1 a2 a3 Post) : Met l yX12_part_ zw_zd_X12_part_ ({ frames := 2, cells := 0, slots := 0, locals := 46 }) (va_Pc [.ref h0, .int a1, .int a2, .int a3] (fun U => va_P D vwCl (mW cI cZ h0 q S) U.heap ∧ zE D cI cZ cP cF U)) (vp_Si Post) 0 0 (fun _ => False) := by
  unfold wp_X12_part_ at h
  refine Met.ofW (cc := cX12_part_) (maxL := 5) (ret := (some .int)) (by decide) rfl ?_
  intro p e s m args below meth c s₁ B hml hv
  obtain ⟨rfl, hP, hE⟩ := hv
  have hx := B.exec
  have hb := B.bytes
  have hr := B.returns
  have hts := atoms_spec (ws := zw_zd_X12_part_) B.pre
  have hown : s.vm.findClass RX12 = some m.cls := findClass_of_methodNamed B.named
  have hlocks := B.notSynchronized
  have hK := hE.k
  have hl := lv_entry ([.ref h0, .int a1, .int a2, .int a3]) (n := 5) (Nat.le_of_ble_eq_true rfl)
  rw [lg_entry_eq]
  generalize (lg_sl ([.ref h0, .int a1, .int a2, .int a3]) ++ List.replicate (5 - (lg_sl ([.ref h0, .int a1, .int a2, .int a3])).length) Slot.unset).toArray = ls at hl ⊢
  have hl : lv_has ls 5 [(0, .ref h0), (1, .int a1), (2, .int a2), (3, .int a3)] := hl
  refine lv_aload_n hx hb dX12_part__0 rfl (lv_at hl 0 rfl) ?_
  refine lv_iload_n hx hb dX12_part__1 rfl (lv_at hl 1 rfl) ?_
  refine vp_callSi (va_Run.run (va_runV (As := [.int a1]) (rest := []) ⟨hx, hb, hml, hown, hts⟩ (zd_X12_isMethod l D cI cZ cP cF h0 q S a1  _ h) (cwV 1 hts zg_zd_X12_part__zd_X12_isMethod_144 rfl rfl rfl (by decide +kernel) ⟨Nat.le_of_ble_eq_true rfl, Nat.le_of_ble_eq_true rfl⟩) ⟨zBR, va_recv hK hP (ci := 12) (q0 := 0) rfl rfl, fun U hU hW => ⟨rfl, by rw [hU]; exact hP, hE.warm hW⟩⟩ rfl rfl hl.1 rfl (lv_room (Nat.le_of_ble_eq_true rfl)) dX12_part__2 ⟨Nat.le_of_ble_eq_true rfl, Nat.le_of_ble_eq_true rfl⟩)) (fun r1 h => ?_)
  refine lv_if_eq (tgt := 25) hx hb dX12_part__5 (by decide) (fun c_2 => ?_) (fun c_2 => ?_)
  · have h := h.1 c_2
    refine lv_ldc hx hb hown (hts (.constant RX12 177 (-2147483648)) (List.mem_of_getElem? (i := 10) rfl)) dX12_part__25 ?_
    exact W.iret (v := (-2147483648)) hx hb hr (fun t ht hW => ⟨_, rfl, h, ht⟩) (fun q h => by cases h) dX12_part__27
  · have h := h.2 c_2
    refine lv_iload_n hx hb dX12_part__8 rfl (lv_at hl 2 rfl) ?_
    refine lv_i2l (v := (a2 : Int32).toInt64) hx hb dX12_part__9 rfl ?_
    refine lv_lconst (v := 0) hx hb dX12_part__10 (by decide) ?_
    refine lv_aload_n hx hb dX12_part__11 rfl (lv_at hl 0 rfl) ?_
    refine lv_iload_n hx hb dX12_part__12 rfl (lv_at hl 1 rfl) ?_
    refine vp_callSi (va_Run.run (va_runV (As := [.int a1]) (rest := [.long 0, .long ((a2 : Int32).toInt64)]) ⟨hx, hb, hml, hown, hts⟩ (zd_X12_partsOf l D cI cZ cP cF h0 q S a1  _ h) (cwV 1 hts zg_zd_X12_part__zd_X12_partsOf_294 rfl rfl rfl (by decide +kernel) ⟨Nat.le_of_ble_eq_true rfl, Nat.le_of_ble_eq_true rfl⟩) ⟨zBR, va_recv hK hP (ci := 12) (q0 := 0) rfl rfl, fun U hU hW => ⟨rfl, by rw [hU]; exact hP, hE.warm hW⟩⟩ rfl rfl hl.1 rfl (lv_room (Nat.le_of_ble_eq_true rfl)) dX12_part__13 ⟨Nat.le_of_ble_eq_true rfl, Nat.le_of_ble_eq_true rfl⟩)) (fun r3 h => ?_)
    refine lv_iconst (v := 1) hx hb dX12_part__16 (by decide) ?_
    refine lv_isub hx hb dX12_part__17 ?_
    refine lv_i2l (v := (r3 - 1 : Int32).toInt64) hx hb dX12_part__18 rfl ?_
    have hP0 : va_P D vwCl [] s.heap := fun k q h => by simp at h
    refine vp_callSi (va_Run.run (va_runS (As := [.long ((a2 : Int32).toInt64), .long 0, .long ((r3 - 1 : Int32).toInt64)]) (rest := []) ⟨hx, hb, hml, hown, hts⟩ (zd_X12_in l D cI cZ cP cF ((a2 : Int32).toInt64) 0 ((r3 - 1 : Int32).toInt64)  _ h) (va_cwS 3 hts zg_zd_X12_part__zd_X12_in_134 rfl rfl rfl (by decide +kernel) ⟨Nat.le_of_ble_eq_true rfl, Nat.le_of_ble_eq_true rfl⟩) ⟨zBR, fun U hU hW => ⟨rfl, by rw [hU]; exact hP0, hE.warm hW⟩⟩ rfl rfl hl.1 rfl (lv_room (Nat.le_of_ble_eq_true rfl)) dX12_part__19 ⟨Nat.le_of_ble_eq_true rfl, Nat.le_of_ble_eq_true rfl⟩)) (fun r4 h => ?_)
    refine lv_if_ne (tgt := 28) hx hb dX12_part__22 (by decide) (fun c_5 => ?_) (fun c_5 => ?_)
    · have h := h.1 c_5
      refine lv_sipush (v := 640) hx hb dX12_part__28 (by decide) ?_
      refine lv_aload_n hx hb dX12_part__31 rfl (lv_at hl 0 rfl) ?_
      refine lv_iload_n hx hb dX12_part__32 rfl (lv_at hl 1 rfl) ?_
      refine vp_callSi (va_Run.run (va_runV (As := [.int a1]) (rest := [.int 640]) ⟨hx, hb, hml, hown, hts⟩ (zd_X12_codeNow l D cI cZ cP cF h0 q S a1  _ h) (cwV 1 hts zg_zd_X12_part__zd_X12_codeNow_217 rfl rfl rfl (by decide +kernel) ⟨Nat.le_of_ble_eq_true rfl, Nat.le_of_ble_eq_true rfl⟩) ⟨zBR, va_recv hK hP (ci := 12) (q0 := 0) rfl rfl, fun U hU hW => ⟨rfl, by rw [hU]; exact hP, hE.warm hW⟩⟩ rfl rfl hl.1 rfl (lv_room (Nat.le_of_ble_eq_true rfl)) dX12_part__33 ⟨Nat.le_of_ble_eq_true rfl, Nat.le_of_ble_eq_true rfl⟩)) (fun r6 h => ?_)
      refine lv_imul hx hb dX12_part__36 ?_
      refine lv_iload_n hx hb dX12_part__37 rfl (lv_at hl 2 rfl) ?_
      refine lv_iadd hx hb dX12_part__38 ?_
      refine lv_istore (lv' := [(4, .int ((640 * r6) + a2)), (0, .ref h0), (1, .int a1), (2, .int a2), (3, .int a3)]) hx hb dX12_part__39 hl (by decide) rfl (fun ls hl => ?_)
      refine lv_iload_n hx hb dX12_part__41 rfl (lv_at hl 4 rfl) ?_
      rcases zt_0_4 a3 with h_out | h_in | h_in | h_in | h_in | h_in
      · have h := h.1 h_out
        refine lv_tableOut (tgt := 116) hx hb dX12_part__42 h_out (by decide) ?_
        refine lv_ldc hx hb hown (hts (.constant RX12 177 (-2147483648)) (List.mem_of_getElem? (i := 10) rfl)) dX12_part__116 ?_
        exact W.iret (v := (-2147483648)) hx hb hr (fun t ht hW => ⟨_, rfl, h, ht⟩) (fun q h => by cases h) dX12_part__118
      · have h := h.2.1 h_in
        refine lv_tableIn (off := 34) (tgt := 76) hx hb dX12_part__42 (by rw [h_in]; decide) (by rw [h_in]; decide) (by rw [h_in]; decide) (by decide) ?_
        refine lv_aload_n hx hb dX12_part__76 rfl (lv_at hl 1 rfl) ?_
        refine va_get (D := D) (ci := 12) (v := .ref (q 25)) (C := RX12) (T := TX12) (N := 52) hx hb hts (fun _ h => List.mem_cons_of_mem _ (List.mem_append_right _ h)) hown hK hP 0 rfl rfl 25 (by decide) (hts (.fieldLink RX12 81 "TemplateForgeModel" "partOp" "[I") (List.mem_of_getElem? (i := 21) rfl)) (fun _ h9 => h9) rfl dX12_part__77 ?_
        refine lv_iload hx hb dX12_part__80 (lv_at hl 0 rfl) ?_
        have hin_7 := h.1
        have h := h.2
        refine va_iald hx hb hK hP 24 0 rfl rfl hin_7 dX12_part__82 ?_
        exact W.iret (v := S 25 ((640 * r6) + a2 : Int32).toNatClampNeg) hx hb hr (fun t ht hW => ⟨_, rfl, h, ht⟩) (fun q h => by cases h) dX12_part__83
      · have h := h.2.2.1 h_in
        refine lv_tableIn (off := 42) (tgt := 84) hx hb dX12_part__42 (by rw [h_in]; decide) (by rw [h_in]; decide) (by rw [h_in]; decide) (by decide) ?_
        refine lv_aload_n hx hb dX12_part__84 rfl (lv_at hl 1 rfl) ?_
        refine va_get (D := D) (ci := 12) (v := .ref (q 26)) (C := RX12) (T := TX12) (N := 52) hx hb hts (fun _ h => List.mem_cons_of_mem _ (List.mem_append_right _ h)) hown hK hP 0 rfl rfl 26 (by decide) (hts (.fieldLink RX12 84 "TemplateForgeModel" "partD" "[I") (List.mem_of_getElem? (i := 22) rfl)) (fun _ h9 => h9) rfl dX12_part__85 ?_
        refine lv_iload hx hb dX12_part__88 (lv_at hl 0 rfl) ?_
        have hin_8 := h.1
        have h := h.2
        refine va_iald hx hb hK hP 25 0 rfl rfl hin_8 dX12_part__90 ?_
        exact W.iret (v := S 26 ((640 * r6) + a2 : Int32).toNatClampNeg) hx hb hr (fun t ht hW => ⟨_, rfl, h, ht⟩) (fun q h => by cases h) dX12_part__91
      · have h := h.2.2.2.1 h_in
        refine lv_tableIn (off := 50) (tgt := 92) hx hb dX12_part__42 (by rw [h_in]; decide) (by rw [h_in]; decide) (by rw [h_in]; decide) (by decide) ?_
        refine lv_aload_n hx hb dX12_part__92 rfl (lv_at hl 1 rfl) ?_
        refine va_get (D := D) (ci := 12) (v := .ref (q 27)) (C := RX12) (T := TX12) (N := 52) hx hb hts (fun _ h => List.mem_cons_of_mem _ (List.mem_append_right _ h)) hown hK hP 0 rfl rfl 27 (by decide) (hts (.fieldLink RX12 87 "TemplateForgeModel" "partA" "[I") (List.mem_of_getElem? (i := 23) rfl)) (fun _ h9 => h9) rfl dX12_part__93 ?_
        refine lv_iload hx hb dX12_part__96 (lv_at hl 0 rfl) ?_
        have hin_9 := h.1
        have h := h.2
        refine va_iald hx hb hK hP 26 0 rfl rfl hin_9 dX12_part__98 ?_
        exact W.iret (v := S 27 ((640 * r6) + a2 : Int32).toNatClampNeg) hx hb hr (fun t ht hW => ⟨_, rfl, h, ht⟩) (fun q h => by cases h) dX12_part__99
      · have h := h.2.2.2.2.1 h_in
        refine lv_tableIn (off := 58) (tgt := 100) hx hb dX12_part__42 (by rw [h_in]; decide) (by rw [h_in]; decide) (by rw [h_in]; decide) (by decide) ?_
        refine lv_aload_n hx hb dX12_part__100 rfl (lv_at hl 1 rfl) ?_
        refine va_get (D := D) (ci := 12) (v := .ref (q 28)) (C := RX12) (T := TX12) (N := 52) hx hb hts (fun _ h => List.mem_cons_of_mem _ (List.mem_append_right _ h)) hown hK hP 0 rfl rfl 28 (by decide) (hts (.fieldLink RX12 90 "TemplateForgeModel" "partB" "[I") (List.mem_of_getElem? (i := 24) rfl)) (fun _ h9 => h9) rfl dX12_part__101 ?_
        refine lv_iload hx hb dX12_part__104 (lv_at hl 0 rfl) ?_
        have hin_10 := h.1
        have h := h.2
        refine va_iald hx hb hK hP 27 0 rfl rfl hin_10 dX12_part__106 ?_
        exact W.iret (v := S 28 ((640 * r6) + a2 : Int32).toNatClampNeg) hx hb hr (fun t ht hW => ⟨_, rfl, h, ht⟩) (fun q h => by cases h) dX12_part__107
      · have h := h.2.2.2.2.2 h_in
        refine lv_tableIn (off := 66) (tgt := 108) hx hb dX12_part__42 (by rw [h_in]; decide) (by rw [h_in]; decide) (by rw [h_in]; decide) (by decide) ?_
        refine lv_aload_n hx hb dX12_part__108 rfl (lv_at hl 1 rfl) ?_
        refine va_get (D := D) (ci := 12) (v := .ref (q 29)) (C := RX12) (T := TX12) (N := 52) hx hb hts (fun _ h => List.mem_cons_of_mem _ (List.mem_append_right _ h)) hown hK hP 0 rfl rfl 29 (by decide) (hts (.fieldLink RX12 93 "TemplateForgeModel" "partOf" "[I") (List.mem_of_getElem? (i := 25) rfl)) (fun _ h9 => h9) rfl dX12_part__109 ?_
        refine lv_iload hx hb dX12_part__112 (lv_at hl 0 rfl) ?_
        have hin_11 := h.1
        have h := h.2
        refine va_iald hx hb hK hP 28 0 rfl rfl hin_11 dX12_part__114 ?_
        exact W.iret (v := S 29 ((640 * r6) + a2 : Int32).toNatClampNeg) hx hb hr (fun t ht hW => ⟨_, rfl, h, ht⟩) (fun q h => by cases h) dX12_part__115
    · have h := h.2 c_5
      refine lv_ldc hx hb hown (hts (.constant RX12 177 (-2147483648)) (List.mem_of_getElem? (i := 10) rfl)) dX12_part__25 ?_
      exact W.iret (v := (-2147483648)) hx hb hr (fun t ht hW => ⟨_, rfl, h, ht⟩) (fun q h => by cases h) dX12_part__27
def wl_X12_digest_195 (S : MST) (K_224 : Int64 → Int32 → Int32 → Prop) (Post : Int64 → Prop) : Nat → Int64 → Int32 → Int32 → Int32 → Prop
  | 0, _, _, _, _ => False
  | n_195 + 1, x195_1, x195_3, x195_4, x195_5 => ((5 ≤ x195_5) → ((K_224 x195_1 x195_3 x195_4))) ∧ ((¬ (5 ≤ x195_5)) → (wp_X12_part_ S x195_3 x195_4 x195_5 (fun r5 => wl_X12_digest_195 S K_224 Post n_195 ((31 * x195_1) + ((r5 : Int32).toInt64)) x195_3 x195_4 (x195_5 + 1))))
def wl_X12_digest_182 (S : MST) (K_230 : Int64 → Int32 → Prop) (Post : Int64 → Prop) : Nat → Int64 → Int32 → Int32 → Prop
  | 0, _, _, _ => False
  | n_182 + 1, x182_1, x182_3, x182_4 => wp_X12_partsOf S x182_3 (fun r2 => ((r2 ≤ x182_4) → ((K_230 x182_1 x182_3))) ∧ ((¬ (r2 ≤ x182_4)) → (∃ n_195, wl_X12_digest_195 S (fun x224_1 x224_3 x224_4 => wl_X12_digest_182 S K_230 Post n_182 x224_1 x224_3 (x224_4 + 1)) Post n_195 x182_1 x182_3 x182_4 0)))
def wl_X12_digest_151 (S : MST) (K_179 : Int64 → Int32 → Prop) (Post : Int64 → Prop) : Nat → Int64 → Int32 → Int32 → Prop
  | 0, _, _, _ => False
  | n_151 + 1, x151_1, x151_3, x151_4 => ((6 ≤ x151_4) → ((K_179 x151_1 x151_3))) ∧ ((¬ (6 ≤ x151_4)) → (wp_X12_of S x151_3 x151_4 (fun r7 => wl_X12_digest_151 S K_179 Post n_151 ((31 * x151_1) + ((r7 : Int32).toInt64)) x151_3 (x151_4 + 1))))
def wl_X12_digest_140 (S : MST) (K_236 : Int64 → Prop) (Post : Int64 → Prop) : Nat → Int64 → Int32 → Prop
  | 0, _, _ => False
  | n_140 + 1, x140_1, x140_3 => (((S 0 0) ≤ x140_3) → ((K_236 x140_1))) ∧ ((¬ ((S 0 0) ≤ x140_3)) → (∃ n_151, wl_X12_digest_151 S (fun x179_1 x179_3 => ∃ n_182, wl_X12_digest_182 S (fun x230_1 x230_3 => wl_X12_digest_140 S K_236 Post n_140 x230_1 (x230_3 + 1)) Post n_182 x179_1 x179_3 0) Post n_151 x140_1 x140_3 0))
def wl_X12_digest_113 (S : MST) (K_138 : Int64 → Prop) (Post : Int64 → Prop) : Nat → Int64 → Int32 → Prop
  | 0, _, _ => False
  | n_113 + 1, x113_1, x113_3 => ((4 ≤ x113_3) → ((K_138 x113_1))) ∧ ((¬ (4 ≤ x113_3)) → (vp_in x113_3 4 ∧ (wl_X12_digest_113 S K_138 Post n_113 ((31 * x113_1) + ((S 50 (x113_3 : Int32).toNatClampNeg : Int32).toInt64)) (x113_3 + 1))))
def wl_X12_digest_56 (S : MST) (K_93 : Int64 → Int32 → Prop) (Post : Int64 → Prop) : Nat → Int64 → Int32 → Int32 → Prop
  | 0, _, _, _ => False
  | n_56 + 1, x56_1, x56_3, x56_4 => vp_in x56_3 4 ∧ ((((S 13 (x56_3 : Int32).toNatClampNeg) ≤ x56_4) → ((K_93 x56_1 x56_3))) ∧ ((¬ ((S 13 (x56_3 : Int32).toNatClampNeg) ≤ x56_4)) → (vp_in ((20 * x56_3) + x56_4) 80 ∧ (wl_X12_digest_56 S K_93 Post n_56 ((31 * x56_1) + ((S 14 ((20 * x56_3) + x56_4 : Int32).toNatClampNeg : Int32).toInt64)) x56_3 (x56_4 + 1)))))
def wl_X12_digest_34 (S : MST) (K_99 : Int64 → Prop) (Post : Int64 → Prop) : Nat → Int64 → Int32 → Prop
  | 0, _, _ => False
  | n_34 + 1, x34_1, x34_3 => ((4 ≤ x34_3) → ((K_99 x34_1))) ∧ ((¬ (4 ≤ x34_3)) → (vp_in x34_3 4 ∧ (∃ n_56, wl_X12_digest_56 S (fun x93_1 x93_3 => wl_X12_digest_34 S K_99 Post n_34 x93_1 (x93_3 + 1)) Post n_56 ((31 * x34_1) + ((S 13 (x34_3 : Int32).toNatClampNeg : Int32).toInt64)) x34_3 0)))
def wl_X12_digest_6 (S : MST) (K_32 : Int64 → Prop) (Post : Int64 → Prop) : Nat → Int64 → Int32 → Prop
  | 0, _, _ => False
  | n_6 + 1, x6_1, x6_3 => ((8 ≤ x6_3) → ((K_32 x6_1))) ∧ ((¬ (8 ≤ x6_3)) → (vp_in x6_3 8 ∧ (wl_X12_digest_6 S K_32 Post n_6 ((31 * x6_1) + ((S 12 (x6_3 : Int32).toNatClampNeg : Int32).toInt64)) (x6_3 + 1))))
def wp_X12_digest (S : MST) (Post : Int64 → Prop) : Prop :=
  ∃ n_6, wl_X12_digest_6 S (fun x32_1 => ∃ n_34, wl_X12_digest_34 S (fun x99_1 => ∃ n_113, wl_X12_digest_113 S (fun x138_1 => ∃ n_140, wl_X12_digest_140 S (fun x236_1 => Post x236_1) Post n_140 x138_1 0) Post n_113 ((31 * x99_1) + ((S 49 0 : Int32).toInt64)) 0) Post n_34 x32_1 0) Post n_6 17 0
def zw_zd_X12_digest_w0 : List Cond := [.constantLong RX12 301 (17), .constantLong RX12 303 (31), .fieldLink RX12 259 "TemplateForgeModel" "answer" "I", .fieldLink RX12 140 "TemplateForgeModel" "methods" "I", .code yX12_partsOf cX12_partsOf 2 (some .int), .fieldLink RX12 56 "TemplateForgeModel" "madeCodes" "[I", .fieldLink RX12 74 "TemplateForgeModel" "partMany" "[I", .code yX12_codeNow cX12_codeNow 2 (some .int), .methodLink RX12 217 yX12_codeNow, .instanceMethod yX12_codeNow, .selects RX12 yX12_codeNow yX12_codeNow, .initialized RX12, .methodLink RX12 294 yX12_partsOf, .instanceMethod yX12_partsOf, .selects RX12 yX12_partsOf yX12_partsOf, .code yX12_part_ cX12_part_ 5 (some .int)]
def zw_zd_X12_digest_w1 : List Cond := [.code yX12_isMethod cX12_isMethod 2 (some .boolean), .code yX12_in cX12_in 6 (some .boolean), .methodLink RX12 134 yX12_in, .static yX12_in, .methodLink RX12 144 yX12_isMethod, .instanceMethod yX12_isMethod, .selects RX12 yX12_isMethod yX12_isMethod, .constant RX12 177 (-2147483648), .fieldLink RX12 81 "TemplateForgeModel" "partOp" "[I", .fieldLink RX12 84 "TemplateForgeModel" "partD" "[I", .fieldLink RX12 87 "TemplateForgeModel" "partA" "[I", .fieldLink RX12 90 "TemplateForgeModel" "partB" "[I", .fieldLink RX12 93 "TemplateForgeModel" "partOf" "[I", .methodLink RX12 308 yX12_part_, .instanceMethod yX12_part_, .selects RX12 yX12_part_ yX12_part_]
def zw_zd_X12_digest_w2 : List Cond := [.code yX12_of cX12_of 3 (some .int), .fieldLink RX12 50 "TemplateForgeModel" "hasCode" "[Z", .fieldLink RX12 53 "TemplateForgeModel" "counted" "[I", .fieldLink RX12 59 "TemplateForgeModel" "guardsFailed" "[I", .fieldLink RX12 62 "TemplateForgeModel" "codeCalls" "[I", .fieldLink RX12 16 "TemplateForgeModel" "many" "[I", .fieldLink RX12 25 "TemplateForgeModel" "isLooked" "[Z", .fieldLink RX12 32 "TemplateForgeModel" "deepest" "[I", .methodLink RX12 305 yX12_of, .instanceMethod yX12_of, .selects RX12 yX12_of yX12_of, .fieldLink RX12 126 "TemplateForgeModel" "trap" "[I", .fieldLink RX12 44 "TemplateForgeModel" "sizes" "[I", .fieldLink RX12 47 "TemplateForgeModel" "rows" "[I", .fieldLink RX12 41 "TemplateForgeModel" "fields" "[I"]
def zw_zd_X12_digest : List Cond := .code yX12_digest cX12_digest 6 (some .long) :: ((zw_zd_X12_digest_w0 ++ (zw_zd_X12_digest_w1 ++ (zw_zd_X12_digest_w2))) ++ wsX120)
set_option maxRecDepth 100000 in
theorem zg_zd_X12_digest_zd_X12_partsOf_294_a : GoodIn zw_zd_X12_digest [.methodLink RX12 294 yX12_partsOf, .instanceMethod yX12_partsOf, .selects RX12 yX12_partsOf yX12_partsOf, .initialized RX12] := goodIn_r _ [13, 14, 15, 12] rfl (by decide +kernel)
set_option maxRecDepth 100000 in
theorem zg_zd_X12_digest_zd_X12_partsOf_294_c : GoodIn zw_zd_X12_digest [.code yX12_partsOf cX12_partsOf 2 (some .int)] := goodIn_r _ [5] rfl (by decide +kernel)
set_option maxRecDepth 100000 in
theorem zg_zd_X12_digest_zd_X12_partsOf_294_0 : GoodIn zw_zd_X12_digest zw_zd_X12_partsOf_w0 := goodIn_r _ [6, 7, 8, 9, 10, 11, 12] rfl (by decide +kernel)
theorem zg_zd_X12_digest_zd_X12_partsOf_294 : GoodIn zw_zd_X12_digest (wsV RX12 294 RX12 yX12_partsOf zw_zd_X12_partsOf) := goodIn_app zg_zd_X12_digest_zd_X12_partsOf_294_a (goodIn_ca (a := (zw_zd_X12_partsOf_w0)) (show GoodIn zw_zd_X12_digest (.code yX12_partsOf cX12_partsOf 2 (some .int) :: (zw_zd_X12_partsOf_w0)) from goodIn_app zg_zd_X12_digest_zd_X12_partsOf_294_c (zg_zd_X12_digest_zd_X12_partsOf_294_0)) (fun w h => ⟨(fun _ h => List.mem_cons_of_mem _ (List.mem_append_right _ h)) w h, good_of_word (List.all_eq_true.mp zgw_X12 w h)⟩))
set_option maxRecDepth 100000 in
theorem zg_zd_X12_digest_zd_X12_part__308_a : GoodIn zw_zd_X12_digest [.methodLink RX12 308 yX12_part_, .instanceMethod yX12_part_, .selects RX12 yX12_part_ yX12_part_, .initialized RX12] := goodIn_r _ [30, 31, 32, 12] rfl (by decide +kernel)
set_option maxRecDepth 100000 in
theorem zg_zd_X12_digest_zd_X12_part__308_c : GoodIn zw_zd_X12_digest [.code yX12_part_ cX12_part_ 5 (some .int)] := goodIn_r _ [16] rfl (by decide +kernel)
set_option maxRecDepth 100000 in
theorem zg_zd_X12_digest_zd_X12_part__308_0 : GoodIn zw_zd_X12_digest zw_zd_X12_part__w0 := goodIn_r _ [17, 4, 18, 19, 20, 12, 21, 22, 23, 24, 5, 6, 7, 8, 9, 10] rfl (by decide +kernel)
set_option maxRecDepth 100000 in
theorem zg_zd_X12_digest_zd_X12_part__308_1 : GoodIn zw_zd_X12_digest zw_zd_X12_part__w1 := goodIn_r _ [11, 13, 14, 15, 25, 26, 27, 28, 29] rfl (by decide +kernel)
theorem zg_zd_X12_digest_zd_X12_part__308 : GoodIn zw_zd_X12_digest (wsV RX12 308 RX12 yX12_part_ zw_zd_X12_part_) := goodIn_app zg_zd_X12_digest_zd_X12_part__308_a (goodIn_ca (a := (zw_zd_X12_part__w0 ++ (zw_zd_X12_part__w1))) (show GoodIn zw_zd_X12_digest (.code yX12_part_ cX12_part_ 5 (some .int) :: (zw_zd_X12_part__w0 ++ (zw_zd_X12_part__w1))) from goodIn_app zg_zd_X12_digest_zd_X12_part__308_c (goodIn_app zg_zd_X12_digest_zd_X12_part__308_0 (zg_zd_X12_digest_zd_X12_part__308_1))) (fun w h => ⟨(fun _ h => List.mem_cons_of_mem _ (List.mem_append_right _ h)) w h, good_of_word (List.all_eq_true.mp zgw_X12 w h)⟩))
set_option maxRecDepth 100000 in
theorem zg_zd_X12_digest_zd_X12_of_305_a : GoodIn zw_zd_X12_digest [.methodLink RX12 305 yX12_of, .instanceMethod yX12_of, .selects RX12 yX12_of yX12_of, .initialized RX12] := goodIn_r _ [41, 42, 43, 12] rfl (by decide +kernel)
set_option maxRecDepth 100000 in
theorem zg_zd_X12_digest_zd_X12_of_305_c : GoodIn zw_zd_X12_digest [.code yX12_of cX12_of 3 (some .int)] := goodIn_r _ [33] rfl (by decide +kernel)
set_option maxRecDepth 100000 in
theorem zg_zd_X12_digest_zd_X12_of_305_0 : GoodIn zw_zd_X12_digest zw_zd_X12_of_w0 := goodIn_r _ [17, 4, 18, 19, 20, 12, 21, 22, 23, 34, 35, 6, 36, 37, 5, 7] rfl (by decide +kernel)
set_option maxRecDepth 100000 in
theorem zg_zd_X12_digest_zd_X12_of_305_1 : GoodIn zw_zd_X12_digest zw_zd_X12_of_w1 := goodIn_r _ [8, 9, 10, 11, 13, 14, 15, 38, 39, 40] rfl (by decide +kernel)
theorem zg_zd_X12_digest_zd_X12_of_305 : GoodIn zw_zd_X12_digest (wsV RX12 305 RX12 yX12_of zw_zd_X12_of) := goodIn_app zg_zd_X12_digest_zd_X12_of_305_a (goodIn_ca (a := (zw_zd_X12_of_w0 ++ (zw_zd_X12_of_w1))) (show GoodIn zw_zd_X12_digest (.code yX12_of cX12_of 3 (some .int) :: (zw_zd_X12_of_w0 ++ (zw_zd_X12_of_w1))) from goodIn_app zg_zd_X12_digest_zd_X12_of_305_c (goodIn_app zg_zd_X12_digest_zd_X12_of_305_0 (zg_zd_X12_digest_zd_X12_of_305_1))) (fun w h => ⟨(fun _ h => List.mem_cons_of_mem _ (List.mem_append_right _ h)) w h, good_of_word (List.all_eq_true.mp zgw_X12 w h)⟩))
set_option maxHeartbeats 16000000 in
set_option maxRecDepth 100000 in
theorem zd_X12_digest (l : Launch) (D : va_G) (cI cZ cP cF : Nat) (h0 : Nat) (q : Nat → Nat) (S : MST) (Post : Int64 → Prop) (h : wp_X12_digest S Post) : Met l yX12_digest zw_zd_X12_digest ({ frames := 3, cells := 0, slots := 0, locals := 70 }) (va_Pc [.ref h0] (fun U => va_P D vwCl (mW cI cZ h0 q S) U.heap ∧ zE D cI cZ cP cF U)) (vp_Sl Post) 0 0 (fun _ => False) := by
  unfold wp_X12_digest at h
  refine Met.ofW (cc := cX12_digest) (maxL := 6) (ret := (some .long)) (by decide) rfl ?_
  intro p e s m args below meth c s₁ B hml hv
  obtain ⟨rfl, hP, hE⟩ := hv
  have hx := B.exec
  have hb := B.bytes
  have hr := B.returns
  have hts := atoms_spec (ws := zw_zd_X12_digest) B.pre
  have hown : s.vm.findClass RX12 = some m.cls := findClass_of_methodNamed B.named
  have hlocks := B.notSynchronized
  have hK := hE.k
  have hl := lv_entry ([.ref h0]) (n := 6) (Nat.le_of_ble_eq_true rfl)
  rw [lg_entry_eq]
  generalize (lg_sl ([.ref h0]) ++ List.replicate (6 - (lg_sl ([.ref h0])).length) Slot.unset).toArray = ls at hl ⊢
  have hl : lv_has ls 6 [(0, .ref h0)] := hl
  refine lv_ldc2 hx hb hown (hts (.constantLong RX12 301 (17)) (List.mem_of_getElem? (i := 1) rfl)) dX12_digest_0 ?_
  refine lv_lstore_n (lv' := [(1, .long 17), (0, .ref h0)]) hx hb dX12_digest_3 rfl hl (by decide) rfl (fun ls hl => ?_)
  refine lv_iconst (v := 0) hx hb dX12_digest_4 (by decide) ?_
  refine lv_istore_n (lv' := [(3, .int 0), (1, .long 17), (0, .ref h0)]) hx hb dX12_digest_5 rfl hl (by decide) rfl (fun ls hl => ?_)
  have EX_6_32 : ∀ (x32_1 : Int64) (ls : Array Slot), (∃ n_34, wl_X12_digest_34 S (fun x99_1 => ∃ n_113, wl_X12_digest_113 S (fun x138_1 => ∃ n_140, wl_X12_digest_140 S (fun x236_1 => Post x236_1) Post n_140 x138_1 0) Post n_113 ((31 * x99_1) + ((S 49 0 : Int32).toInt64)) 0) Post n_34 x32_1 0) → lv_has ls 6 [(0, .ref h0), (1, .long x32_1)] → W p l e (headSpec zw_zd_X12_digest ({ frames := 3, cells := 0, slots := 0, locals := 70 })).room s m ([.ref h0] : List Value).toArray below meth c s.heap [] 0 0 (MQ below (vp_Sl Post) ([.ref h0] : List Value).toArray s 0 0 (fun _ => False)) (F0 m 32 ls []) := by
    intro x32_1 ls h hl
    refine lv_iconst (v := 0) hx hb dX12_digest_32 (by decide) ?_
    refine lv_istore_n (lv' := [(3, .int 0), (0, .ref h0), (1, .long x32_1)]) hx hb dX12_digest_33 rfl hl (by decide) rfl (fun ls hl => ?_)
    have EX_34_99 : ∀ (x99_1 : Int64) (ls : Array Slot), (∃ n_113, wl_X12_digest_113 S (fun x138_1 => ∃ n_140, wl_X12_digest_140 S (fun x236_1 => Post x236_1) Post n_140 x138_1 0) Post n_113 ((31 * x99_1) + ((S 49 0 : Int32).toInt64)) 0) → lv_has ls 6 [(0, .ref h0), (1, .long x99_1)] → W p l e (headSpec zw_zd_X12_digest ({ frames := 3, cells := 0, slots := 0, locals := 70 })).room s m ([.ref h0] : List Value).toArray below meth c s.heap [] 0 0 (MQ below (vp_Sl Post) ([.ref h0] : List Value).toArray s 0 0 (fun _ => False)) (F0 m 99 ls []) := by
      intro x99_1 ls h hl
      refine lv_ldc2 hx hb hown (hts (.constantLong RX12 303 (31)) (List.mem_of_getElem? (i := 2) rfl)) dX12_digest_99 ?_
      refine lv_lload_n hx hb dX12_digest_102 rfl (lv_at hl 1 rfl) ?_
      refine lv_lmul hx hb dX12_digest_103 ?_
      refine lv_aload_n hx hb dX12_digest_104 rfl (lv_at hl 0 rfl) ?_
      refine va_get (D := D) (ci := 12) (v := .int (S 49 0)) (C := RX12) (T := TX12) (N := 52) hx hb hts (fun _ h => List.mem_cons_of_mem _ (List.mem_append_right _ h)) hown hK hP 0 rfl rfl 49 (by decide) (hts (.fieldLink RX12 259 "TemplateForgeModel" "answer" "I") (List.mem_of_getElem? (i := 3) rfl)) (fun _ h9 => h9) rfl dX12_digest_105 ?_
      refine lv_i2l (v := (S 49 0 : Int32).toInt64) hx hb dX12_digest_108 rfl ?_
      refine lv_ladd hx hb dX12_digest_109 ?_
      refine lv_lstore_n (lv' := [(1, .long ((31 * x99_1) + ((S 49 0 : Int32).toInt64))), (0, .ref h0)]) hx hb dX12_digest_110 rfl hl (by decide) rfl (fun ls hl => ?_)
      refine lv_iconst (v := 0) hx hb dX12_digest_111 (by decide) ?_
      refine lv_istore_n (lv' := [(3, .int 0), (1, .long ((31 * x99_1) + ((S 49 0 : Int32).toInt64))), (0, .ref h0)]) hx hb dX12_digest_112 rfl hl (by decide) rfl (fun ls hl => ?_)
      have EX_113_138 : ∀ (x138_1 : Int64) (ls : Array Slot), (∃ n_140, wl_X12_digest_140 S (fun x236_1 => Post x236_1) Post n_140 x138_1 0) → lv_has ls 6 [(0, .ref h0), (1, .long x138_1)] → W p l e (headSpec zw_zd_X12_digest ({ frames := 3, cells := 0, slots := 0, locals := 70 })).room s m ([.ref h0] : List Value).toArray below meth c s.heap [] 0 0 (MQ below (vp_Sl Post) ([.ref h0] : List Value).toArray s 0 0 (fun _ => False)) (F0 m 138 ls []) := by
        intro x138_1 ls h hl
        refine lv_iconst (v := 0) hx hb dX12_digest_138 (by decide) ?_
        refine lv_istore_n (lv' := [(3, .int 0), (0, .ref h0), (1, .long x138_1)]) hx hb dX12_digest_139 rfl hl (by decide) rfl (fun ls hl => ?_)
        have EX_140_236 : ∀ (x236_1 : Int64) (ls : Array Slot), (Post x236_1) → lv_has ls 6 [(1, .long x236_1)] → W p l e (headSpec zw_zd_X12_digest ({ frames := 3, cells := 0, slots := 0, locals := 70 })).room s m ([.ref h0] : List Value).toArray below meth c s.heap [] 0 0 (MQ below (vp_Sl Post) ([.ref h0] : List Value).toArray s 0 0 (fun _ => False)) (F0 m 236 ls []) := by
          intro x236_1 ls h hl
          refine lv_lload_n hx hb dX12_digest_236 rfl (lv_at hl 0 rfl) ?_
          exact W.lret (v := x236_1) hx hb hr (fun t ht hW => ⟨_, rfl, h, ht⟩) (fun q h => by cases h) dX12_digest_237
        have LP_140 : ∀ (n_140 : Nat), ∀ (x140_1 : Int64) (x140_3 : Int32) (ls : Array Slot), wl_X12_digest_140 S (fun x236_1 => Post x236_1) Post n_140 x140_1 x140_3 → lv_has ls 6 [(0, .ref h0), (1, .long x140_1), (3, .int x140_3)] → W p l e (headSpec zw_zd_X12_digest ({ frames := 3, cells := 0, slots := 0, locals := 70 })).room s m ([.ref h0] : List Value).toArray below meth c s.heap [] 0 0 (MQ below (vp_Sl Post) ([.ref h0] : List Value).toArray s 0 0 (fun _ => False)) (F0 m 140 ls []) := by
          intro n_140
          induction n_140 with
          | zero =>
            intro x140_1 x140_3 ls h hl
            exact False.elim h
          | succ n_140 ih_140 =>
            intro x140_1 x140_3 ls h hl
            unfold wl_X12_digest_140 at h
            refine lv_iload_n hx hb dX12_digest_140 rfl (lv_at hl 2 rfl) ?_
            refine lv_aload_n hx hb dX12_digest_141 rfl (lv_at hl 0 rfl) ?_
            refine va_get (D := D) (ci := 12) (v := .int (S 0 0)) (C := RX12) (T := TX12) (N := 52) hx hb hts (fun _ h => List.mem_cons_of_mem _ (List.mem_append_right _ h)) hown hK hP 0 rfl rfl 0 (by decide) (hts (.fieldLink RX12 140 "TemplateForgeModel" "methods" "I") (List.mem_of_getElem? (i := 4) rfl)) (fun _ h9 => h9) rfl dX12_digest_142 ?_
            refine lv_icmp_ge (tgt := 236) hx hb dX12_digest_145 (by decide) (fun c_1 => ?_) (fun c_1 => ?_)
            · have h := h.1 c_1
              exact EX_140_236  x140_1 _ h (lv_sub hl [1] rfl)
            · have h := h.2 c_1
              refine lv_iconst (v := 0) hx hb dX12_digest_148 (by decide) ?_
              refine lv_istore (lv' := [(4, .int 0), (0, .ref h0), (1, .long x140_1), (3, .int x140_3)]) hx hb dX12_digest_149 hl (by decide) rfl (fun ls hl => ?_)
              have EX_151_179 : ∀ (x179_1 : Int64) (x179_3 : Int32) (ls : Array Slot), (∃ n_182, wl_X12_digest_182 S (fun x230_1 x230_3 => wl_X12_digest_140 S (fun x236_1 => Post x236_1) Post n_140 x230_1 (x230_3 + 1)) Post n_182 x179_1 x179_3 0) → lv_has ls 6 [(0, .ref h0), (1, .long x179_1), (3, .int x179_3)] → W p l e (headSpec zw_zd_X12_digest ({ frames := 3, cells := 0, slots := 0, locals := 70 })).room s m ([.ref h0] : List Value).toArray below meth c s.heap [] 0 0 (MQ below (vp_Sl Post) ([.ref h0] : List Value).toArray s 0 0 (fun _ => False)) (F0 m 179 ls []) := by
                intro x179_1 x179_3 ls h hl
                refine lv_iconst (v := 0) hx hb dX12_digest_179 (by decide) ?_
                refine lv_istore (lv' := [(4, .int 0), (0, .ref h0), (1, .long x179_1), (3, .int x179_3)]) hx hb dX12_digest_180 hl (by decide) rfl (fun ls hl => ?_)
                have EX_182_230 : ∀ (x230_1 : Int64) (x230_3 : Int32) (ls : Array Slot), (wl_X12_digest_140 S (fun x236_1 => Post x236_1) Post n_140 x230_1 (x230_3 + 1)) → lv_has ls 6 [(0, .ref h0), (1, .long x230_1), (3, .int x230_3)] → W p l e (headSpec zw_zd_X12_digest ({ frames := 3, cells := 0, slots := 0, locals := 70 })).room s m ([.ref h0] : List Value).toArray below meth c s.heap [] 0 0 (MQ below (vp_Sl Post) ([.ref h0] : List Value).toArray s 0 0 (fun _ => False)) (F0 m 230 ls []) := by
                  intro x230_1 x230_3 ls h hl
                  refine lv_iinc (v := x230_3 + 1) (lv' := [(3, .int (x230_3 + 1)), (0, .ref h0), (1, .long x230_1)]) hx hb dX12_digest_230 hl (k := 2) rfl rfl (by decide) rfl (fun ls hl => ?_)
                  refine lv_goto (tgt := 140) hx hb dX12_digest_233 (by decide) ?_
                  exact ih_140  x230_1 (x230_3 + 1) _ h (lv_sub hl [1, 2, 0] rfl)
                have LP_182 : ∀ (n_182 : Nat), ∀ (x182_1 : Int64) (x182_3 : Int32) (x182_4 : Int32) (ls : Array Slot), wl_X12_digest_182 S (fun x230_1 x230_3 => wl_X12_digest_140 S (fun x236_1 => Post x236_1) Post n_140 x230_1 (x230_3 + 1)) Post n_182 x182_1 x182_3 x182_4 → lv_has ls 6 [(0, .ref h0), (1, .long x182_1), (3, .int x182_3), (4, .int x182_4)] → W p l e (headSpec zw_zd_X12_digest ({ frames := 3, cells := 0, slots := 0, locals := 70 })).room s m ([.ref h0] : List Value).toArray below meth c s.heap [] 0 0 (MQ below (vp_Sl Post) ([.ref h0] : List Value).toArray s 0 0 (fun _ => False)) (F0 m 182 ls []) := by
                  intro n_182
                  induction n_182 with
                  | zero =>
                    intro x182_1 x182_3 x182_4 ls h hl
                    exact False.elim h
                  | succ n_182 ih_182 =>
                    intro x182_1 x182_3 x182_4 ls h hl
                    unfold wl_X12_digest_182 at h
                    refine lv_iload hx hb dX12_digest_182 (lv_at hl 3 rfl) ?_
                    refine lv_aload_n hx hb dX12_digest_184 rfl (lv_at hl 0 rfl) ?_
                    refine lv_iload_n hx hb dX12_digest_185 rfl (lv_at hl 2 rfl) ?_
                    refine vp_callSi (va_Run.run (va_runV (As := [.int x182_3]) (rest := [.int x182_4]) ⟨hx, hb, hml, hown, hts⟩ (zd_X12_partsOf l D cI cZ cP cF h0 q S x182_3  _ h) (cwV 1 hts zg_zd_X12_digest_zd_X12_partsOf_294 rfl rfl rfl (by decide +kernel) ⟨Nat.le_of_ble_eq_true rfl, Nat.le_of_ble_eq_true rfl⟩) ⟨zBR, va_recv hK hP (ci := 12) (q0 := 0) rfl rfl, fun U hU hW => ⟨rfl, by rw [hU]; exact hP, hE.warm hW⟩⟩ rfl rfl hl.1 rfl (lv_room (Nat.le_of_ble_eq_true rfl)) dX12_digest_186 ⟨Nat.le_of_ble_eq_true rfl, Nat.le_of_ble_eq_true rfl⟩)) (fun r2 h => ?_)
                    refine lv_icmp_ge (tgt := 230) hx hb dX12_digest_189 (by decide) (fun c_3 => ?_) (fun c_3 => ?_)
                    · have h := h.1 c_3
                      exact EX_182_230  x182_1 x182_3 _ h (lv_sub hl [0, 1, 2] rfl)
                    · have h := h.2 c_3
                      refine lv_iconst (v := 0) hx hb dX12_digest_192 (by decide) ?_
                      refine lv_istore (lv' := [(5, .int 0), (0, .ref h0), (1, .long x182_1), (3, .int x182_3), (4, .int x182_4)]) hx hb dX12_digest_193 hl (by decide) rfl (fun ls hl => ?_)
                      have EX_195_224 : ∀ (x224_1 : Int64) (x224_3 : Int32) (x224_4 : Int32) (ls : Array Slot), (wl_X12_digest_182 S (fun x230_1 x230_3 => wl_X12_digest_140 S (fun x236_1 => Post x236_1) Post n_140 x230_1 (x230_3 + 1)) Post n_182 x224_1 x224_3 (x224_4 + 1)) → lv_has ls 6 [(0, .ref h0), (1, .long x224_1), (3, .int x224_3), (4, .int x224_4)] → W p l e (headSpec zw_zd_X12_digest ({ frames := 3, cells := 0, slots := 0, locals := 70 })).room s m ([.ref h0] : List Value).toArray below meth c s.heap [] 0 0 (MQ below (vp_Sl Post) ([.ref h0] : List Value).toArray s 0 0 (fun _ => False)) (F0 m 224 ls []) := by
                        intro x224_1 x224_3 x224_4 ls h hl
                        refine lv_iinc (v := x224_4 + 1) (lv' := [(4, .int (x224_4 + 1)), (0, .ref h0), (1, .long x224_1), (3, .int x224_3)]) hx hb dX12_digest_224 hl (k := 3) rfl rfl (by decide) rfl (fun ls hl => ?_)
                        refine lv_goto (tgt := 182) hx hb dX12_digest_227 (by decide) ?_
                        exact ih_182  x224_1 x224_3 (x224_4 + 1) _ h (lv_sub hl [1, 2, 3, 0] rfl)
                      have LP_195 : ∀ (n_195 : Nat), ∀ (x195_1 : Int64) (x195_3 : Int32) (x195_4 : Int32) (x195_5 : Int32) (ls : Array Slot), wl_X12_digest_195 S (fun x224_1 x224_3 x224_4 => wl_X12_digest_182 S (fun x230_1 x230_3 => wl_X12_digest_140 S (fun x236_1 => Post x236_1) Post n_140 x230_1 (x230_3 + 1)) Post n_182 x224_1 x224_3 (x224_4 + 1)) Post n_195 x195_1 x195_3 x195_4 x195_5 → lv_has ls 6 [(0, .ref h0), (1, .long x195_1), (3, .int x195_3), (4, .int x195_4), (5, .int x195_5)] → W p l e (headSpec zw_zd_X12_digest ({ frames := 3, cells := 0, slots := 0, locals := 70 })).room s m ([.ref h0] : List Value).toArray below meth c s.heap [] 0 0 (MQ below (vp_Sl Post) ([.ref h0] : List Value).toArray s 0 0 (fun _ => False)) (F0 m 195 ls []) := by
                        intro n_195
                        induction n_195 with
                        | zero =>
                          intro x195_1 x195_3 x195_4 x195_5 ls h hl
                          exact False.elim h
                        | succ n_195 ih_195 =>
                          intro x195_1 x195_3 x195_4 x195_5 ls h hl
                          unfold wl_X12_digest_195 at h
                          refine lv_iload hx hb dX12_digest_195 (lv_at hl 4 rfl) ?_
                          refine lv_iconst (v := 5) hx hb dX12_digest_197 (by decide) ?_
                          refine lv_icmp_ge (tgt := 224) hx hb dX12_digest_198 (by decide) (fun c_4 => ?_) (fun c_4 => ?_)
                          · have h := h.1 c_4
                            exact EX_195_224  x195_1 x195_3 x195_4 _ h (lv_sub hl [0, 1, 2, 3] rfl)
                          · have h := h.2 c_4
                            refine lv_ldc2 hx hb hown (hts (.constantLong RX12 303 (31)) (List.mem_of_getElem? (i := 2) rfl)) dX12_digest_201 ?_
                            refine lv_lload_n hx hb dX12_digest_204 rfl (lv_at hl 1 rfl) ?_
                            refine lv_lmul hx hb dX12_digest_205 ?_
                            refine lv_aload_n hx hb dX12_digest_206 rfl (lv_at hl 0 rfl) ?_
                            refine lv_iload_n hx hb dX12_digest_207 rfl (lv_at hl 2 rfl) ?_
                            refine lv_iload hx hb dX12_digest_208 (lv_at hl 3 rfl) ?_
                            refine lv_iload hx hb dX12_digest_210 (lv_at hl 4 rfl) ?_
                            refine vp_callSi (va_Run.run (va_runV (As := [.int x195_3, .int x195_4, .int x195_5]) (rest := [.long (31 * x195_1)]) ⟨hx, hb, hml, hown, hts⟩ (zd_X12_part_ l D cI cZ cP cF h0 q S x195_3 x195_4 x195_5  _ h) (cwV 3 hts zg_zd_X12_digest_zd_X12_part__308 rfl rfl rfl (by decide +kernel) ⟨Nat.le_of_ble_eq_true rfl, Nat.le_of_ble_eq_true rfl⟩) ⟨zBR, va_recv hK hP (ci := 12) (q0 := 0) rfl rfl, fun U hU hW => ⟨rfl, by rw [hU]; exact hP, hE.warm hW⟩⟩ rfl rfl hl.1 rfl (lv_room (Nat.le_of_ble_eq_true rfl)) dX12_digest_212 ⟨Nat.le_of_ble_eq_true rfl, Nat.le_of_ble_eq_true rfl⟩)) (fun r5 h => ?_)
                            refine lv_i2l (v := (r5 : Int32).toInt64) hx hb dX12_digest_215 rfl ?_
                            refine lv_ladd hx hb dX12_digest_216 ?_
                            refine lv_lstore_n (lv' := [(1, .long ((31 * x195_1) + ((r5 : Int32).toInt64))), (0, .ref h0), (3, .int x195_3), (4, .int x195_4), (5, .int x195_5)]) hx hb dX12_digest_217 rfl hl (by decide) rfl (fun ls hl => ?_)
                            refine lv_iinc (v := x195_5 + 1) (lv' := [(5, .int (x195_5 + 1)), (1, .long ((31 * x195_1) + ((r5 : Int32).toInt64))), (0, .ref h0), (3, .int x195_3), (4, .int x195_4)]) hx hb dX12_digest_218 hl (k := 4) rfl rfl (by decide) rfl (fun ls hl => ?_)
                            refine lv_goto (tgt := 195) hx hb dX12_digest_221 (by decide) ?_
                            exact ih_195  ((31 * x195_1) + ((r5 : Int32).toInt64)) x195_3 x195_4 (x195_5 + 1) _ h (lv_sub hl [2, 1, 3, 4, 0] rfl)
                      obtain ⟨n_195, h⟩ := h
                      exact LP_195 n_195 x182_1 x182_3 x182_4 0 _ h (lv_sub hl [1, 2, 3, 4, 0] rfl)
                obtain ⟨n_182, h⟩ := h
                exact LP_182 n_182 x179_1 x179_3 0 _ h (lv_sub hl [1, 2, 3, 0] rfl)
              have LP_151 : ∀ (n_151 : Nat), ∀ (x151_1 : Int64) (x151_3 : Int32) (x151_4 : Int32) (ls : Array Slot), wl_X12_digest_151 S (fun x179_1 x179_3 => ∃ n_182, wl_X12_digest_182 S (fun x230_1 x230_3 => wl_X12_digest_140 S (fun x236_1 => Post x236_1) Post n_140 x230_1 (x230_3 + 1)) Post n_182 x179_1 x179_3 0) Post n_151 x151_1 x151_3 x151_4 → lv_has ls 6 [(0, .ref h0), (1, .long x151_1), (3, .int x151_3), (4, .int x151_4)] → W p l e (headSpec zw_zd_X12_digest ({ frames := 3, cells := 0, slots := 0, locals := 70 })).room s m ([.ref h0] : List Value).toArray below meth c s.heap [] 0 0 (MQ below (vp_Sl Post) ([.ref h0] : List Value).toArray s 0 0 (fun _ => False)) (F0 m 151 ls []) := by
                intro n_151
                induction n_151 with
                | zero =>
                  intro x151_1 x151_3 x151_4 ls h hl
                  exact False.elim h
                | succ n_151 ih_151 =>
                  intro x151_1 x151_3 x151_4 ls h hl
                  unfold wl_X12_digest_151 at h
                  refine lv_iload hx hb dX12_digest_151 (lv_at hl 3 rfl) ?_
                  refine lv_bipush (v := 6) hx hb dX12_digest_153 (by decide) ?_
                  refine lv_icmp_ge (tgt := 179) hx hb dX12_digest_155 (by decide) (fun c_6 => ?_) (fun c_6 => ?_)
                  · have h := h.1 c_6
                    exact EX_151_179  x151_1 x151_3 _ h (lv_sub hl [0, 1, 2] rfl)
                  · have h := h.2 c_6
                    refine lv_ldc2 hx hb hown (hts (.constantLong RX12 303 (31)) (List.mem_of_getElem? (i := 2) rfl)) dX12_digest_158 ?_
                    refine lv_lload_n hx hb dX12_digest_161 rfl (lv_at hl 1 rfl) ?_
                    refine lv_lmul hx hb dX12_digest_162 ?_
                    refine lv_aload_n hx hb dX12_digest_163 rfl (lv_at hl 0 rfl) ?_
                    refine lv_iload_n hx hb dX12_digest_164 rfl (lv_at hl 2 rfl) ?_
                    refine lv_iload hx hb dX12_digest_165 (lv_at hl 3 rfl) ?_
                    refine vp_callSi (va_Run.run (va_runV (As := [.int x151_3, .int x151_4]) (rest := [.long (31 * x151_1)]) ⟨hx, hb, hml, hown, hts⟩ (zd_X12_of l D cI cZ cP cF h0 q S x151_3 x151_4  _ h) (cwV 2 hts zg_zd_X12_digest_zd_X12_of_305 rfl rfl rfl (by decide +kernel) ⟨Nat.le_of_ble_eq_true rfl, Nat.le_of_ble_eq_true rfl⟩) ⟨zBR, va_recv hK hP (ci := 12) (q0 := 0) rfl rfl, fun U hU hW => ⟨rfl, by rw [hU]; exact hP, hE.warm hW⟩⟩ rfl rfl hl.1 rfl (lv_room (Nat.le_of_ble_eq_true rfl)) dX12_digest_167 ⟨Nat.le_of_ble_eq_true rfl, Nat.le_of_ble_eq_true rfl⟩)) (fun r7 h => ?_)
                    refine lv_i2l (v := (r7 : Int32).toInt64) hx hb dX12_digest_170 rfl ?_
                    refine lv_ladd hx hb dX12_digest_171 ?_
                    refine lv_lstore_n (lv' := [(1, .long ((31 * x151_1) + ((r7 : Int32).toInt64))), (0, .ref h0), (3, .int x151_3), (4, .int x151_4)]) hx hb dX12_digest_172 rfl hl (by decide) rfl (fun ls hl => ?_)
                    refine lv_iinc (v := x151_4 + 1) (lv' := [(4, .int (x151_4 + 1)), (1, .long ((31 * x151_1) + ((r7 : Int32).toInt64))), (0, .ref h0), (3, .int x151_3)]) hx hb dX12_digest_173 hl (k := 3) rfl rfl (by decide) rfl (fun ls hl => ?_)
                    refine lv_goto (tgt := 151) hx hb dX12_digest_176 (by decide) ?_
                    exact ih_151  ((31 * x151_1) + ((r7 : Int32).toInt64)) x151_3 (x151_4 + 1) _ h (lv_sub hl [2, 1, 3, 0] rfl)
              obtain ⟨n_151, h⟩ := h
              exact LP_151 n_151 x140_1 x140_3 0 _ h (lv_sub hl [1, 2, 3, 0] rfl)
        obtain ⟨n_140, h⟩ := h
        exact LP_140 n_140 x138_1 0 _ h (lv_sub hl [1, 2, 0] rfl)
      have LP_113 : ∀ (n_113 : Nat), ∀ (x113_1 : Int64) (x113_3 : Int32) (ls : Array Slot), wl_X12_digest_113 S (fun x138_1 => ∃ n_140, wl_X12_digest_140 S (fun x236_1 => Post x236_1) Post n_140 x138_1 0) Post n_113 x113_1 x113_3 → lv_has ls 6 [(0, .ref h0), (1, .long x113_1), (3, .int x113_3)] → W p l e (headSpec zw_zd_X12_digest ({ frames := 3, cells := 0, slots := 0, locals := 70 })).room s m ([.ref h0] : List Value).toArray below meth c s.heap [] 0 0 (MQ below (vp_Sl Post) ([.ref h0] : List Value).toArray s 0 0 (fun _ => False)) (F0 m 113 ls []) := by
        intro n_113
        induction n_113 with
        | zero =>
          intro x113_1 x113_3 ls h hl
          exact False.elim h
        | succ n_113 ih_113 =>
          intro x113_1 x113_3 ls h hl
          unfold wl_X12_digest_113 at h
          refine lv_iload_n hx hb dX12_digest_113 rfl (lv_at hl 2 rfl) ?_
          refine lv_iconst (v := 4) hx hb dX12_digest_114 (by decide) ?_
          refine lv_icmp_ge (tgt := 138) hx hb dX12_digest_115 (by decide) (fun c_8 => ?_) (fun c_8 => ?_)
          · have h := h.1 c_8
            exact EX_113_138  x113_1 _ h (lv_sub hl [0, 1] rfl)
          · have h := h.2 c_8
            refine lv_ldc2 hx hb hown (hts (.constantLong RX12 303 (31)) (List.mem_of_getElem? (i := 2) rfl)) dX12_digest_118 ?_
            refine lv_lload_n hx hb dX12_digest_121 rfl (lv_at hl 1 rfl) ?_
            refine lv_lmul hx hb dX12_digest_122 ?_
            refine lv_aload_n hx hb dX12_digest_123 rfl (lv_at hl 0 rfl) ?_
            refine va_get (D := D) (ci := 12) (v := .ref (q 50)) (C := RX12) (T := TX12) (N := 52) hx hb hts (fun _ h => List.mem_cons_of_mem _ (List.mem_append_right _ h)) hown hK hP 0 rfl rfl 50 (by decide) (hts (.fieldLink RX12 126 "TemplateForgeModel" "trap" "[I") (List.mem_of_getElem? (i := 44) rfl)) (fun _ h9 => h9) rfl dX12_digest_124 ?_
            refine lv_iload_n hx hb dX12_digest_127 rfl (lv_at hl 2 rfl) ?_
            have hin_9 := h.1
            have h := h.2
            refine va_iald hx hb hK hP 39 0 rfl rfl hin_9 dX12_digest_128 ?_
            refine lv_i2l (v := (S 50 (x113_3 : Int32).toNatClampNeg : Int32).toInt64) hx hb dX12_digest_129 rfl ?_
            refine lv_ladd hx hb dX12_digest_130 ?_
            refine lv_lstore_n (lv' := [(1, .long ((31 * x113_1) + ((S 50 (x113_3 : Int32).toNatClampNeg : Int32).toInt64))), (0, .ref h0), (3, .int x113_3)]) hx hb dX12_digest_131 rfl hl (by decide) rfl (fun ls hl => ?_)
            refine lv_iinc (v := x113_3 + 1) (lv' := [(3, .int (x113_3 + 1)), (1, .long ((31 * x113_1) + ((S 50 (x113_3 : Int32).toNatClampNeg : Int32).toInt64))), (0, .ref h0)]) hx hb dX12_digest_132 hl (k := 2) rfl rfl (by decide) rfl (fun ls hl => ?_)
            refine lv_goto (tgt := 113) hx hb dX12_digest_135 (by decide) ?_
            exact ih_113  ((31 * x113_1) + ((S 50 (x113_3 : Int32).toNatClampNeg : Int32).toInt64)) (x113_3 + 1) _ h (lv_sub hl [2, 1, 0] rfl)
      obtain ⟨n_113, h⟩ := h
      exact LP_113 n_113 ((31 * x99_1) + ((S 49 0 : Int32).toInt64)) 0 _ h (lv_sub hl [2, 1, 0] rfl)
    have LP_34 : ∀ (n_34 : Nat), ∀ (x34_1 : Int64) (x34_3 : Int32) (ls : Array Slot), wl_X12_digest_34 S (fun x99_1 => ∃ n_113, wl_X12_digest_113 S (fun x138_1 => ∃ n_140, wl_X12_digest_140 S (fun x236_1 => Post x236_1) Post n_140 x138_1 0) Post n_113 ((31 * x99_1) + ((S 49 0 : Int32).toInt64)) 0) Post n_34 x34_1 x34_3 → lv_has ls 6 [(0, .ref h0), (1, .long x34_1), (3, .int x34_3)] → W p l e (headSpec zw_zd_X12_digest ({ frames := 3, cells := 0, slots := 0, locals := 70 })).room s m ([.ref h0] : List Value).toArray below meth c s.heap [] 0 0 (MQ below (vp_Sl Post) ([.ref h0] : List Value).toArray s 0 0 (fun _ => False)) (F0 m 34 ls []) := by
      intro n_34
      induction n_34 with
      | zero =>
        intro x34_1 x34_3 ls h hl
        exact False.elim h
      | succ n_34 ih_34 =>
        intro x34_1 x34_3 ls h hl
        unfold wl_X12_digest_34 at h
        refine lv_iload_n hx hb dX12_digest_34 rfl (lv_at hl 2 rfl) ?_
        refine lv_iconst (v := 4) hx hb dX12_digest_35 (by decide) ?_
        refine lv_icmp_ge (tgt := 99) hx hb dX12_digest_36 (by decide) (fun c_10 => ?_) (fun c_10 => ?_)
        · have h := h.1 c_10
          exact EX_34_99  x34_1 _ h (lv_sub hl [0, 1] rfl)
        · have h := h.2 c_10
          refine lv_ldc2 hx hb hown (hts (.constantLong RX12 303 (31)) (List.mem_of_getElem? (i := 2) rfl)) dX12_digest_39 ?_
          refine lv_lload_n hx hb dX12_digest_42 rfl (lv_at hl 1 rfl) ?_
          refine lv_lmul hx hb dX12_digest_43 ?_
          refine lv_aload_n hx hb dX12_digest_44 rfl (lv_at hl 0 rfl) ?_
          refine va_get (D := D) (ci := 12) (v := .ref (q 13)) (C := RX12) (T := TX12) (N := 52) hx hb hts (fun _ h => List.mem_cons_of_mem _ (List.mem_append_right _ h)) hown hK hP 0 rfl rfl 13 (by decide) (hts (.fieldLink RX12 44 "TemplateForgeModel" "sizes" "[I") (List.mem_of_getElem? (i := 45) rfl)) (fun _ h9 => h9) rfl dX12_digest_45 ?_
          refine lv_iload_n hx hb dX12_digest_48 rfl (lv_at hl 2 rfl) ?_
          have hin_11 := h.1
          have h := h.2
          refine va_iald hx hb hK hP 12 0 rfl rfl hin_11 dX12_digest_49 ?_
          refine lv_i2l (v := (S 13 (x34_3 : Int32).toNatClampNeg : Int32).toInt64) hx hb dX12_digest_50 rfl ?_
          refine lv_ladd hx hb dX12_digest_51 ?_
          refine lv_lstore_n (lv' := [(1, .long ((31 * x34_1) + ((S 13 (x34_3 : Int32).toNatClampNeg : Int32).toInt64))), (0, .ref h0), (3, .int x34_3)]) hx hb dX12_digest_52 rfl hl (by decide) rfl (fun ls hl => ?_)
          refine lv_iconst (v := 0) hx hb dX12_digest_53 (by decide) ?_
          refine lv_istore (lv' := [(4, .int 0), (1, .long ((31 * x34_1) + ((S 13 (x34_3 : Int32).toNatClampNeg : Int32).toInt64))), (0, .ref h0), (3, .int x34_3)]) hx hb dX12_digest_54 hl (by decide) rfl (fun ls hl => ?_)
          have EX_56_93 : ∀ (x93_1 : Int64) (x93_3 : Int32) (ls : Array Slot), (wl_X12_digest_34 S (fun x99_1 => ∃ n_113, wl_X12_digest_113 S (fun x138_1 => ∃ n_140, wl_X12_digest_140 S (fun x236_1 => Post x236_1) Post n_140 x138_1 0) Post n_113 ((31 * x99_1) + ((S 49 0 : Int32).toInt64)) 0) Post n_34 x93_1 (x93_3 + 1)) → lv_has ls 6 [(0, .ref h0), (1, .long x93_1), (3, .int x93_3)] → W p l e (headSpec zw_zd_X12_digest ({ frames := 3, cells := 0, slots := 0, locals := 70 })).room s m ([.ref h0] : List Value).toArray below meth c s.heap [] 0 0 (MQ below (vp_Sl Post) ([.ref h0] : List Value).toArray s 0 0 (fun _ => False)) (F0 m 93 ls []) := by
            intro x93_1 x93_3 ls h hl
            refine lv_iinc (v := x93_3 + 1) (lv' := [(3, .int (x93_3 + 1)), (0, .ref h0), (1, .long x93_1)]) hx hb dX12_digest_93 hl (k := 2) rfl rfl (by decide) rfl (fun ls hl => ?_)
            refine lv_goto (tgt := 34) hx hb dX12_digest_96 (by decide) ?_
            exact ih_34  x93_1 (x93_3 + 1) _ h (lv_sub hl [1, 2, 0] rfl)
          have LP_56 : ∀ (n_56 : Nat), ∀ (x56_1 : Int64) (x56_3 : Int32) (x56_4 : Int32) (ls : Array Slot), wl_X12_digest_56 S (fun x93_1 x93_3 => wl_X12_digest_34 S (fun x99_1 => ∃ n_113, wl_X12_digest_113 S (fun x138_1 => ∃ n_140, wl_X12_digest_140 S (fun x236_1 => Post x236_1) Post n_140 x138_1 0) Post n_113 ((31 * x99_1) + ((S 49 0 : Int32).toInt64)) 0) Post n_34 x93_1 (x93_3 + 1)) Post n_56 x56_1 x56_3 x56_4 → lv_has ls 6 [(0, .ref h0), (1, .long x56_1), (3, .int x56_3), (4, .int x56_4)] → W p l e (headSpec zw_zd_X12_digest ({ frames := 3, cells := 0, slots := 0, locals := 70 })).room s m ([.ref h0] : List Value).toArray below meth c s.heap [] 0 0 (MQ below (vp_Sl Post) ([.ref h0] : List Value).toArray s 0 0 (fun _ => False)) (F0 m 56 ls []) := by
            intro n_56
            induction n_56 with
            | zero =>
              intro x56_1 x56_3 x56_4 ls h hl
              exact False.elim h
            | succ n_56 ih_56 =>
              intro x56_1 x56_3 x56_4 ls h hl
              unfold wl_X12_digest_56 at h
              refine lv_iload hx hb dX12_digest_56 (lv_at hl 3 rfl) ?_
              refine lv_aload_n hx hb dX12_digest_58 rfl (lv_at hl 0 rfl) ?_
              refine va_get (D := D) (ci := 12) (v := .ref (q 13)) (C := RX12) (T := TX12) (N := 52) hx hb hts (fun _ h => List.mem_cons_of_mem _ (List.mem_append_right _ h)) hown hK hP 0 rfl rfl 13 (by decide) (hts (.fieldLink RX12 44 "TemplateForgeModel" "sizes" "[I") (List.mem_of_getElem? (i := 45) rfl)) (fun _ h9 => h9) rfl dX12_digest_59 ?_
              refine lv_iload_n hx hb dX12_digest_62 rfl (lv_at hl 2 rfl) ?_
              have hin_12 := h.1
              have h := h.2
              refine va_iald hx hb hK hP 12 0 rfl rfl hin_12 dX12_digest_63 ?_
              refine lv_icmp_ge (tgt := 93) hx hb dX12_digest_64 (by decide) (fun c_13 => ?_) (fun c_13 => ?_)
              · have h := h.1 c_13
                exact EX_56_93  x56_1 x56_3 _ h (lv_sub hl [0, 1, 2] rfl)
              · have h := h.2 c_13
                refine lv_ldc2 hx hb hown (hts (.constantLong RX12 303 (31)) (List.mem_of_getElem? (i := 2) rfl)) dX12_digest_67 ?_
                refine lv_lload_n hx hb dX12_digest_70 rfl (lv_at hl 1 rfl) ?_
                refine lv_lmul hx hb dX12_digest_71 ?_
                refine lv_aload_n hx hb dX12_digest_72 rfl (lv_at hl 0 rfl) ?_
                refine va_get (D := D) (ci := 12) (v := .ref (q 14)) (C := RX12) (T := TX12) (N := 52) hx hb hts (fun _ h => List.mem_cons_of_mem _ (List.mem_append_right _ h)) hown hK hP 0 rfl rfl 14 (by decide) (hts (.fieldLink RX12 47 "TemplateForgeModel" "rows" "[I") (List.mem_of_getElem? (i := 46) rfl)) (fun _ h9 => h9) rfl dX12_digest_73 ?_
                refine lv_bipush (v := 20) hx hb dX12_digest_76 (by decide) ?_
                refine lv_iload_n hx hb dX12_digest_78 rfl (lv_at hl 2 rfl) ?_
                refine lv_imul hx hb dX12_digest_79 ?_
                refine lv_iload hx hb dX12_digest_80 (lv_at hl 3 rfl) ?_
                refine lv_iadd hx hb dX12_digest_82 ?_
                have hin_14 := h.1
                have h := h.2
                refine va_iald hx hb hK hP 13 0 rfl rfl hin_14 dX12_digest_83 ?_
                refine lv_i2l (v := (S 14 ((20 * x56_3) + x56_4 : Int32).toNatClampNeg : Int32).toInt64) hx hb dX12_digest_84 rfl ?_
                refine lv_ladd hx hb dX12_digest_85 ?_
                refine lv_lstore_n (lv' := [(1, .long ((31 * x56_1) + ((S 14 ((20 * x56_3) + x56_4 : Int32).toNatClampNeg : Int32).toInt64))), (0, .ref h0), (3, .int x56_3), (4, .int x56_4)]) hx hb dX12_digest_86 rfl hl (by decide) rfl (fun ls hl => ?_)
                refine lv_iinc (v := x56_4 + 1) (lv' := [(4, .int (x56_4 + 1)), (1, .long ((31 * x56_1) + ((S 14 ((20 * x56_3) + x56_4 : Int32).toNatClampNeg : Int32).toInt64))), (0, .ref h0), (3, .int x56_3)]) hx hb dX12_digest_87 hl (k := 3) rfl rfl (by decide) rfl (fun ls hl => ?_)
                refine lv_goto (tgt := 56) hx hb dX12_digest_90 (by decide) ?_
                exact ih_56  ((31 * x56_1) + ((S 14 ((20 * x56_3) + x56_4 : Int32).toNatClampNeg : Int32).toInt64)) x56_3 (x56_4 + 1) _ h (lv_sub hl [2, 1, 3, 0] rfl)
          obtain ⟨n_56, h⟩ := h
          exact LP_56 n_56 ((31 * x34_1) + ((S 13 (x34_3 : Int32).toNatClampNeg : Int32).toInt64)) x34_3 0 _ h (lv_sub hl [2, 1, 3, 0] rfl)
    obtain ⟨n_34, h⟩ := h
    exact LP_34 n_34 x32_1 0 _ h (lv_sub hl [1, 2, 0] rfl)
  have LP_6 : ∀ (n_6 : Nat), ∀ (x6_1 : Int64) (x6_3 : Int32) (ls : Array Slot), wl_X12_digest_6 S (fun x32_1 => ∃ n_34, wl_X12_digest_34 S (fun x99_1 => ∃ n_113, wl_X12_digest_113 S (fun x138_1 => ∃ n_140, wl_X12_digest_140 S (fun x236_1 => Post x236_1) Post n_140 x138_1 0) Post n_113 ((31 * x99_1) + ((S 49 0 : Int32).toInt64)) 0) Post n_34 x32_1 0) Post n_6 x6_1 x6_3 → lv_has ls 6 [(0, .ref h0), (1, .long x6_1), (3, .int x6_3)] → W p l e (headSpec zw_zd_X12_digest ({ frames := 3, cells := 0, slots := 0, locals := 70 })).room s m ([.ref h0] : List Value).toArray below meth c s.heap [] 0 0 (MQ below (vp_Sl Post) ([.ref h0] : List Value).toArray s 0 0 (fun _ => False)) (F0 m 6 ls []) := by
    intro n_6
    induction n_6 with
    | zero =>
      intro x6_1 x6_3 ls h hl
      exact False.elim h
    | succ n_6 ih_6 =>
      intro x6_1 x6_3 ls h hl
      unfold wl_X12_digest_6 at h
      refine lv_iload_n hx hb dX12_digest_6 rfl (lv_at hl 2 rfl) ?_
      refine lv_bipush (v := 8) hx hb dX12_digest_7 (by decide) ?_
      refine lv_icmp_ge (tgt := 32) hx hb dX12_digest_9 (by decide) (fun c_15 => ?_) (fun c_15 => ?_)
      · have h := h.1 c_15
        exact EX_6_32  x6_1 _ h (lv_sub hl [0, 1] rfl)
      · have h := h.2 c_15
        refine lv_ldc2 hx hb hown (hts (.constantLong RX12 303 (31)) (List.mem_of_getElem? (i := 2) rfl)) dX12_digest_12 ?_
        refine lv_lload_n hx hb dX12_digest_15 rfl (lv_at hl 1 rfl) ?_
        refine lv_lmul hx hb dX12_digest_16 ?_
        refine lv_aload_n hx hb dX12_digest_17 rfl (lv_at hl 0 rfl) ?_
        refine va_get (D := D) (ci := 12) (v := .ref (q 12)) (C := RX12) (T := TX12) (N := 52) hx hb hts (fun _ h => List.mem_cons_of_mem _ (List.mem_append_right _ h)) hown hK hP 0 rfl rfl 12 (by decide) (hts (.fieldLink RX12 41 "TemplateForgeModel" "fields" "[I") (List.mem_of_getElem? (i := 47) rfl)) (fun _ h9 => h9) rfl dX12_digest_18 ?_
        refine lv_iload_n hx hb dX12_digest_21 rfl (lv_at hl 2 rfl) ?_
        have hin_16 := h.1
        have h := h.2
        refine va_iald hx hb hK hP 11 0 rfl rfl hin_16 dX12_digest_22 ?_
        refine lv_i2l (v := (S 12 (x6_3 : Int32).toNatClampNeg : Int32).toInt64) hx hb dX12_digest_23 rfl ?_
        refine lv_ladd hx hb dX12_digest_24 ?_
        refine lv_lstore_n (lv' := [(1, .long ((31 * x6_1) + ((S 12 (x6_3 : Int32).toNatClampNeg : Int32).toInt64))), (0, .ref h0), (3, .int x6_3)]) hx hb dX12_digest_25 rfl hl (by decide) rfl (fun ls hl => ?_)
        refine lv_iinc (v := x6_3 + 1) (lv' := [(3, .int (x6_3 + 1)), (1, .long ((31 * x6_1) + ((S 12 (x6_3 : Int32).toNatClampNeg : Int32).toInt64))), (0, .ref h0)]) hx hb dX12_digest_26 hl (k := 2) rfl rfl (by decide) rfl (fun ls hl => ?_)
        refine lv_goto (tgt := 6) hx hb dX12_digest_29 (by decide) ?_
        exact ih_6  ((31 * x6_1) + ((S 12 (x6_3 : Int32).toNatClampNeg : Int32).toInt64)) (x6_3 + 1) _ h (lv_sub hl [2, 1, 0] rfl)
  obtain ⟨n_6, h⟩ := h
  exact LP_6 n_6 17 0 _ h (lv_sub hl [2, 1, 0] rfl)
def wl_X12_isBehindCall_4 (S : MST) (K_53 : Int32 → Int32 → Prop) (Post : Int32 → Prop) : Nat → Int32 → Int32 → Prop
  | 0, _, _ => False
  | n_4 + 1, x4_1, x4_2 => (((x4_2 : Int32) < 0) → ((K_53 x4_1 x4_2))) ∧ ((¬ ((x4_2 : Int32) < 0)) → (vp_in x4_2 61440 ∧ (((¬ (((S 25 (x4_2 : Int32).toNatClampNeg) : Int32) = 18)) → ((K_53 x4_1 x4_2))) ∧ ((((S 25 (x4_2 : Int32).toNatClampNeg) : Int32) = 18) → (vp_in x4_2 61440 ∧ (vp_in x4_1 61440 ∧ (((¬ (((S 29 (x4_2 : Int32).toNatClampNeg) : Int32) = (S 29 (x4_1 : Int32).toNatClampNeg))) → ((K_53 x4_1 x4_2))) ∧ ((((S 29 (x4_2 : Int32).toNatClampNeg) : Int32) = (S 29 (x4_1 : Int32).toNatClampNeg)) → (((¬ (((x4_2 / 640) : Int32) = (x4_1 / 640))) → ((K_53 x4_1 x4_2))) ∧ ((((x4_2 / 640) : Int32) = (x4_1 / 640)) → (wl_X12_isBehindCall_4 S K_53 Post n_4 x4_1 (x4_2 + (-1)))))))))))))
def wp_X12_isBehindCall (S : MST) (a1 : Int32) (Post : Int32 → Prop) : Prop :=
  ∃ n_4, wl_X12_isBehindCall_4 S (fun x53_1 x53_2 => (((x53_2 : Int32) < 0) → (Post 0)) ∧ ((¬ ((x53_2 : Int32) < 0)) → (((¬ (((x53_2 / 640) : Int32) = (x53_1 / 640))) → (Post 0)) ∧ ((((x53_2 / 640) : Int32) = (x53_1 / 640)) → (vp_in x53_2 61440 ∧ (((¬ (((S 25 (x53_2 : Int32).toNatClampNeg) : Int32) = 10)) → (Post 0)) ∧ ((((S 25 (x53_2 : Int32).toNatClampNeg) : Int32) = 10) → (vp_in x53_2 61440 ∧ (vp_in x53_1 61440 ∧ (((¬ (((S 29 (x53_2 : Int32).toNatClampNeg) : Int32) = (S 29 (x53_1 : Int32).toNatClampNeg))) → (Post 0)) ∧ ((((S 29 (x53_2 : Int32).toNatClampNeg) : Int32) = (S 29 (x53_1 : Int32).toNatClampNeg)) → (Post 1)))))))))))) Post n_4 a1 (a1 - 1)
def zw_zd_X12_isBehindCall_w0 : List Cond := [.fieldLink RX12 81 "TemplateForgeModel" "partOp" "[I", .fieldLink RX12 93 "TemplateForgeModel" "partOf" "[I"]
def zw_zd_X12_isBehindCall : List Cond := .code yX12_isBehindCall cX12_isBehindCall 3 (some .boolean) :: ((zw_zd_X12_isBehindCall_w0) ++ wsX120)
set_option maxHeartbeats 16000000 in
set_option maxRecDepth 100000 in
theorem zd_X12_isBehindCall (l : Launch) (D : va_G) (cI cZ cP cF : Nat) (h0 : Nat) (q : Nat → Nat) (S : MST) (a1 : Int32) (Post : Int32 → Prop) (h : wp_X12_isBehindCall S a1 Post) : Met l yX12_isBehindCall zw_zd_X12_isBehindCall ({ frames := 0, cells := 0, slots := 0, locals := 0 }) (va_Pc [.ref h0, .int a1] (fun U => va_P D vwCl (mW cI cZ h0 q S) U.heap ∧ zE D cI cZ cP cF U)) (vp_Si Post) 0 0 (fun _ => False) := by
  unfold wp_X12_isBehindCall at h
  refine Met.ofW (cc := cX12_isBehindCall) (maxL := 3) (ret := (some .boolean)) (by decide) rfl ?_
  intro p e s m args below meth c s₁ B hml hv
  obtain ⟨rfl, hP, hE⟩ := hv
  have hx := B.exec
  have hb := B.bytes
  have hr := B.returns
  have hts := atoms_spec (ws := zw_zd_X12_isBehindCall) B.pre
  have hown : s.vm.findClass RX12 = some m.cls := findClass_of_methodNamed B.named
  have hlocks := B.notSynchronized
  have hK := hE.k
  have hl := lv_entry ([.ref h0, .int a1]) (n := 3) (Nat.le_of_ble_eq_true rfl)
  rw [lg_entry_eq]
  generalize (lg_sl ([.ref h0, .int a1]) ++ List.replicate (3 - (lg_sl ([.ref h0, .int a1])).length) Slot.unset).toArray = ls at hl ⊢
  have hl : lv_has ls 3 [(0, .ref h0), (1, .int a1)] := hl
  refine lv_iload_n hx hb dX12_isBehindCall_0 rfl (lv_at hl 1 rfl) ?_
  refine lv_iconst (v := 1) hx hb dX12_isBehindCall_1 (by decide) ?_
  refine lv_isub hx hb dX12_isBehindCall_2 ?_
  refine lv_istore_n (lv' := [(2, .int (a1 - 1)), (0, .ref h0), (1, .int a1)]) hx hb dX12_isBehindCall_3 rfl hl (by decide) rfl (fun ls hl => ?_)
  have EX_4_53 : ∀ (x53_1 : Int32) (x53_2 : Int32) (ls : Array Slot), ((((x53_2 : Int32) < 0) → (Post 0)) ∧ ((¬ ((x53_2 : Int32) < 0)) → (((¬ (((x53_2 / 640) : Int32) = (x53_1 / 640))) → (Post 0)) ∧ ((((x53_2 / 640) : Int32) = (x53_1 / 640)) → (vp_in x53_2 61440 ∧ (((¬ (((S 25 (x53_2 : Int32).toNatClampNeg) : Int32) = 10)) → (Post 0)) ∧ ((((S 25 (x53_2 : Int32).toNatClampNeg) : Int32) = 10) → (vp_in x53_2 61440 ∧ (vp_in x53_1 61440 ∧ (((¬ (((S 29 (x53_2 : Int32).toNatClampNeg) : Int32) = (S 29 (x53_1 : Int32).toNatClampNeg))) → (Post 0)) ∧ ((((S 29 (x53_2 : Int32).toNatClampNeg) : Int32) = (S 29 (x53_1 : Int32).toNatClampNeg)) → (Post 1)))))))))))) → lv_has ls 3 [(0, .ref h0), (1, .int x53_1), (2, .int x53_2)] → W p l e (headSpec zw_zd_X12_isBehindCall ({ frames := 0, cells := 0, slots := 0, locals := 0 })).room s m ([.ref h0, .int a1] : List Value).toArray below meth c s.heap [] 0 0 (MQ below (vp_Si Post) ([.ref h0, .int a1] : List Value).toArray s 0 0 (fun _ => False)) (F0 m 53 ls []) := by
    intro x53_1 x53_2 ls h hl
    refine lv_iload_n hx hb dX12_isBehindCall_53 rfl (lv_at hl 2 rfl) ?_
    refine lv_if_lt (tgt := 100) hx hb dX12_isBehindCall_54 (by decide) (fun c_1 => ?_) (fun c_1 => ?_)
    · have h := h.1 c_1
      refine lv_iconst (v := 0) hx hb dX12_isBehindCall_100 (by decide) ?_
      exact W.zret (v := 0) (ty := .boolean) hx hb hr (by decide) (fun t ht hW => ⟨_, rfl, h, ht⟩) (fun q h => by cases h) dX12_isBehindCall_101
    · have h := h.2 c_1
      refine lv_iload_n hx hb dX12_isBehindCall_57 rfl (lv_at hl 2 rfl) ?_
      refine lv_sipush (v := 640) hx hb dX12_isBehindCall_58 (by decide) ?_
      refine lv_idiv hx hb dX12_isBehindCall_61 (by decide) ?_
      refine lv_iload_n hx hb dX12_isBehindCall_62 rfl (lv_at hl 1 rfl) ?_
      refine lv_sipush (v := 640) hx hb dX12_isBehindCall_63 (by decide) ?_
      refine lv_idiv hx hb dX12_isBehindCall_66 (by decide) ?_
      refine lv_icmp_ne (tgt := 100) hx hb dX12_isBehindCall_67 (by decide) (fun c_2 => ?_) (fun c_2 => ?_)
      · have h := h.1 c_2
        refine lv_iconst (v := 0) hx hb dX12_isBehindCall_100 (by decide) ?_
        exact W.zret (v := 0) (ty := .boolean) hx hb hr (by decide) (fun t ht hW => ⟨_, rfl, h, ht⟩) (fun q h => by cases h) dX12_isBehindCall_101
      · have h := h.2 c_2
        refine lv_aload_n hx hb dX12_isBehindCall_70 rfl (lv_at hl 0 rfl) ?_
        refine va_get (D := D) (ci := 12) (v := .ref (q 25)) (C := RX12) (T := TX12) (N := 52) hx hb hts (fun _ h => List.mem_cons_of_mem _ (List.mem_append_right _ h)) hown hK hP 0 rfl rfl 25 (by decide) (hts (.fieldLink RX12 81 "TemplateForgeModel" "partOp" "[I") (List.mem_of_getElem? (i := 1) rfl)) (fun _ h9 => h9) rfl dX12_isBehindCall_71 ?_
        refine lv_iload_n hx hb dX12_isBehindCall_74 rfl (lv_at hl 2 rfl) ?_
        have hin_3 := h.1
        have h := h.2
        refine va_iald hx hb hK hP 24 0 rfl rfl hin_3 dX12_isBehindCall_75 ?_
        refine lv_bipush (v := 10) hx hb dX12_isBehindCall_76 (by decide) ?_
        refine lv_icmp_ne (tgt := 100) hx hb dX12_isBehindCall_78 (by decide) (fun c_4 => ?_) (fun c_4 => ?_)
        · have h := h.1 c_4
          refine lv_iconst (v := 0) hx hb dX12_isBehindCall_100 (by decide) ?_
          exact W.zret (v := 0) (ty := .boolean) hx hb hr (by decide) (fun t ht hW => ⟨_, rfl, h, ht⟩) (fun q h => by cases h) dX12_isBehindCall_101
        · have h := h.2 c_4
          refine lv_aload_n hx hb dX12_isBehindCall_81 rfl (lv_at hl 0 rfl) ?_
          refine va_get (D := D) (ci := 12) (v := .ref (q 29)) (C := RX12) (T := TX12) (N := 52) hx hb hts (fun _ h => List.mem_cons_of_mem _ (List.mem_append_right _ h)) hown hK hP 0 rfl rfl 29 (by decide) (hts (.fieldLink RX12 93 "TemplateForgeModel" "partOf" "[I") (List.mem_of_getElem? (i := 2) rfl)) (fun _ h9 => h9) rfl dX12_isBehindCall_82 ?_
          refine lv_iload_n hx hb dX12_isBehindCall_85 rfl (lv_at hl 2 rfl) ?_
          have hin_5 := h.1
          have h := h.2
          refine va_iald hx hb hK hP 28 0 rfl rfl hin_5 dX12_isBehindCall_86 ?_
          refine lv_aload_n hx hb dX12_isBehindCall_87 rfl (lv_at hl 0 rfl) ?_
          refine va_get (D := D) (ci := 12) (v := .ref (q 29)) (C := RX12) (T := TX12) (N := 52) hx hb hts (fun _ h => List.mem_cons_of_mem _ (List.mem_append_right _ h)) hown hK hP 0 rfl rfl 29 (by decide) (hts (.fieldLink RX12 93 "TemplateForgeModel" "partOf" "[I") (List.mem_of_getElem? (i := 2) rfl)) (fun _ h9 => h9) rfl dX12_isBehindCall_88 ?_
          refine lv_iload_n hx hb dX12_isBehindCall_91 rfl (lv_at hl 1 rfl) ?_
          have hin_6 := h.1
          have h := h.2
          refine va_iald hx hb hK hP 28 0 rfl rfl hin_6 dX12_isBehindCall_92 ?_
          refine lv_icmp_ne (tgt := 100) hx hb dX12_isBehindCall_93 (by decide) (fun c_7 => ?_) (fun c_7 => ?_)
          · have h := h.1 c_7
            refine lv_iconst (v := 0) hx hb dX12_isBehindCall_100 (by decide) ?_
            exact W.zret (v := 0) (ty := .boolean) hx hb hr (by decide) (fun t ht hW => ⟨_, rfl, h, ht⟩) (fun q h => by cases h) dX12_isBehindCall_101
          · have h := h.2 c_7
            refine lv_iconst (v := 1) hx hb dX12_isBehindCall_96 (by decide) ?_
            refine lv_goto (tgt := 101) hx hb dX12_isBehindCall_97 (by decide) ?_
            exact W.zret (v := 1) (ty := .boolean) hx hb hr (by decide) (fun t ht hW => ⟨_, rfl, h, ht⟩) (fun q h => by cases h) dX12_isBehindCall_101
  have LP_4 : ∀ (n_4 : Nat), ∀ (x4_1 : Int32) (x4_2 : Int32) (ls : Array Slot), wl_X12_isBehindCall_4 S (fun x53_1 x53_2 => (((x53_2 : Int32) < 0) → (Post 0)) ∧ ((¬ ((x53_2 : Int32) < 0)) → (((¬ (((x53_2 / 640) : Int32) = (x53_1 / 640))) → (Post 0)) ∧ ((((x53_2 / 640) : Int32) = (x53_1 / 640)) → (vp_in x53_2 61440 ∧ (((¬ (((S 25 (x53_2 : Int32).toNatClampNeg) : Int32) = 10)) → (Post 0)) ∧ ((((S 25 (x53_2 : Int32).toNatClampNeg) : Int32) = 10) → (vp_in x53_2 61440 ∧ (vp_in x53_1 61440 ∧ (((¬ (((S 29 (x53_2 : Int32).toNatClampNeg) : Int32) = (S 29 (x53_1 : Int32).toNatClampNeg))) → (Post 0)) ∧ ((((S 29 (x53_2 : Int32).toNatClampNeg) : Int32) = (S 29 (x53_1 : Int32).toNatClampNeg)) → (Post 1)))))))))))) Post n_4 x4_1 x4_2 → lv_has ls 3 [(0, .ref h0), (1, .int x4_1), (2, .int x4_2)] → W p l e (headSpec zw_zd_X12_isBehindCall ({ frames := 0, cells := 0, slots := 0, locals := 0 })).room s m ([.ref h0, .int a1] : List Value).toArray below meth c s.heap [] 0 0 (MQ below (vp_Si Post) ([.ref h0, .int a1] : List Value).toArray s 0 0 (fun _ => False)) (F0 m 4 ls []) := by
    intro n_4
    induction n_4 with
    | zero =>
      intro x4_1 x4_2 ls h hl
      exact False.elim h
    | succ n_4 ih_4 =>
      intro x4_1 x4_2 ls h hl
      unfold wl_X12_isBehindCall_4 at h
      refine lv_iload_n hx hb dX12_isBehindCall_4 rfl (lv_at hl 2 rfl) ?_
      refine lv_if_lt (tgt := 53) hx hb dX12_isBehindCall_5 (by decide) (fun c_8 => ?_) (fun c_8 => ?_)
      · have h := h.1 c_8
        exact EX_4_53  x4_1 x4_2 _ h (lv_sub hl [0, 1, 2] rfl)
      · have h := h.2 c_8
        refine lv_aload_n hx hb dX12_isBehindCall_8 rfl (lv_at hl 0 rfl) ?_
        refine va_get (D := D) (ci := 12) (v := .ref (q 25)) (C := RX12) (T := TX12) (N := 52) hx hb hts (fun _ h => List.mem_cons_of_mem _ (List.mem_append_right _ h)) hown hK hP 0 rfl rfl 25 (by decide) (hts (.fieldLink RX12 81 "TemplateForgeModel" "partOp" "[I") (List.mem_of_getElem? (i := 1) rfl)) (fun _ h9 => h9) rfl dX12_isBehindCall_9 ?_
        refine lv_iload_n hx hb dX12_isBehindCall_12 rfl (lv_at hl 2 rfl) ?_
        have hin_9 := h.1
        have h := h.2
        refine va_iald hx hb hK hP 24 0 rfl rfl hin_9 dX12_isBehindCall_13 ?_
        refine lv_bipush (v := 18) hx hb dX12_isBehindCall_14 (by decide) ?_
        refine lv_icmp_ne (tgt := 53) hx hb dX12_isBehindCall_16 (by decide) (fun c_10 => ?_) (fun c_10 => ?_)
        · have h := h.1 c_10
          exact EX_4_53  x4_1 x4_2 _ h (lv_sub hl [0, 1, 2] rfl)
        · have h := h.2 c_10
          refine lv_aload_n hx hb dX12_isBehindCall_19 rfl (lv_at hl 0 rfl) ?_
          refine va_get (D := D) (ci := 12) (v := .ref (q 29)) (C := RX12) (T := TX12) (N := 52) hx hb hts (fun _ h => List.mem_cons_of_mem _ (List.mem_append_right _ h)) hown hK hP 0 rfl rfl 29 (by decide) (hts (.fieldLink RX12 93 "TemplateForgeModel" "partOf" "[I") (List.mem_of_getElem? (i := 2) rfl)) (fun _ h9 => h9) rfl dX12_isBehindCall_20 ?_
          refine lv_iload_n hx hb dX12_isBehindCall_23 rfl (lv_at hl 2 rfl) ?_
          have hin_11 := h.1
          have h := h.2
          refine va_iald hx hb hK hP 28 0 rfl rfl hin_11 dX12_isBehindCall_24 ?_
          refine lv_aload_n hx hb dX12_isBehindCall_25 rfl (lv_at hl 0 rfl) ?_
          refine va_get (D := D) (ci := 12) (v := .ref (q 29)) (C := RX12) (T := TX12) (N := 52) hx hb hts (fun _ h => List.mem_cons_of_mem _ (List.mem_append_right _ h)) hown hK hP 0 rfl rfl 29 (by decide) (hts (.fieldLink RX12 93 "TemplateForgeModel" "partOf" "[I") (List.mem_of_getElem? (i := 2) rfl)) (fun _ h9 => h9) rfl dX12_isBehindCall_26 ?_
          refine lv_iload_n hx hb dX12_isBehindCall_29 rfl (lv_at hl 1 rfl) ?_
          have hin_12 := h.1
          have h := h.2
          refine va_iald hx hb hK hP 28 0 rfl rfl hin_12 dX12_isBehindCall_30 ?_
          refine lv_icmp_ne (tgt := 53) hx hb dX12_isBehindCall_31 (by decide) (fun c_13 => ?_) (fun c_13 => ?_)
          · have h := h.1 c_13
            exact EX_4_53  x4_1 x4_2 _ h (lv_sub hl [0, 1, 2] rfl)
          · have h := h.2 c_13
            refine lv_iload_n hx hb dX12_isBehindCall_34 rfl (lv_at hl 2 rfl) ?_
            refine lv_sipush (v := 640) hx hb dX12_isBehindCall_35 (by decide) ?_
            refine lv_idiv hx hb dX12_isBehindCall_38 (by decide) ?_
            refine lv_iload_n hx hb dX12_isBehindCall_39 rfl (lv_at hl 1 rfl) ?_
            refine lv_sipush (v := 640) hx hb dX12_isBehindCall_40 (by decide) ?_
            refine lv_idiv hx hb dX12_isBehindCall_43 (by decide) ?_
            refine lv_icmp_ne (tgt := 53) hx hb dX12_isBehindCall_44 (by decide) (fun c_14 => ?_) (fun c_14 => ?_)
            · have h := h.1 c_14
              exact EX_4_53  x4_1 x4_2 _ h (lv_sub hl [0, 1, 2] rfl)
            · have h := h.2 c_14
              refine lv_iinc (v := x4_2 + (-1)) (lv' := [(2, .int (x4_2 + (-1))), (0, .ref h0), (1, .int x4_1)]) hx hb dX12_isBehindCall_47 hl (k := 2) rfl rfl (by decide) rfl (fun ls hl => ?_)
              refine lv_goto (tgt := 4) hx hb dX12_isBehindCall_50 (by decide) ?_
              exact ih_4  x4_1 (x4_2 + (-1)) _ h (lv_sub hl [1, 2, 0] rfl)
  obtain ⟨n_4, h⟩ := h
  exact LP_4 n_4 a1 (a1 - 1) _ h (lv_sub hl [1, 2, 0] rfl)
def wj_X12_fails_128 (S_128 : MST) (x128_1 : Int32) (x128_4 : Int32) (x128_6 : Int32) (Post : MST → Prop) : Prop :=
  vp_in x128_1 16 ∧ (∀ S1 : MST, S1 = ms S_128 40 (upd (S_128 40) (x128_1 : Int32).toNatClampNeg (-1)) → (vp_in x128_1 16 ∧ (∀ S2 : MST, S2 = ms S1 39 (upd (S1 39) (x128_1 : Int32).toNatClampNeg x128_6) → (vp_in ((60 * x128_4) + x128_6) 480 ∧ (vp_in x128_1 16 ∧ (∀ S4 : MST, S4 = ms S2 41 (upd (S2 41) (x128_1 : Int32).toNatClampNeg (S2 7 ((60 * x128_4) + x128_6 : Int32).toNatClampNeg)) → (Post S4)))))))
def wj_X12_fails_109 (S_109 : MST) (x109_1 : Int32) (x109_2 : Int32) (x109_4 : Int32) (x109_5 : Int32) (Post : MST → Prop) : Prop :=
  (((x109_5 : Int32) = 0) → (wj_X12_fails_128 S_109 x109_1 x109_4 0 Post)) ∧ ((¬ ((x109_5 : Int32) = 0)) → (vp_in x109_2 61440 ∧ (wj_X12_fails_128 S_109 x109_1 x109_4 ((S_109 29 (x109_2 : Int32).toNatClampNeg) + 1) Post)))
def wj_X12_fails_83 (S_83 : MST) (x83_1 : Int32) (x83_2 : Int32) (x83_4 : Int32) (Post : MST → Prop) : Prop :=
  vp_in x83_2 61440 ∧ (((¬ (((S_83 25 (x83_2 : Int32).toNatClampNeg) : Int32) = 18)) → (wj_X12_fails_109 S_83 x83_1 x83_2 x83_4 0 Post)) ∧ ((((S_83 25 (x83_2 : Int32).toNatClampNeg) : Int32) = 18) → (wp_X12_isBehindCall S_83 x83_2 (fun r9 => (((r9 : Int32) = 0) → (wj_X12_fails_109 S_83 x83_1 x83_2 x83_4 0 Post)) ∧ ((¬ ((r9 : Int32) = 0)) → (wj_X12_fails_109 S_83 x83_1 x83_2 x83_4 1 Post))))))
def wp_X12_fails (S : MST) (a1 : Int32) (a2 : Int32) (a3 : Int32) (Post : MST → Prop) : Prop :=
  vp_in a1 16 ∧ (vp_in (S 38 (a1 : Int32).toNatClampNeg) 8 ∧ (vp_in (S 38 (a1 : Int32).toNatClampNeg) 8 ∧ (∀ S13 : MST, S13 = ms S 18 (upd (S 18) (S 38 (a1 : Int32).toNatClampNeg : Int32).toNatClampNeg ((S 18 (S 38 (a1 : Int32).toNatClampNeg : Int32).toNatClampNeg) + 1)) → (∀ S14 : MST, S14 = ms S13 47 (fun _ => (S13 47 0) + 1) → (vp_in ((11 * (S 38 (a1 : Int32).toNatClampNeg)) + a3) 88 ∧ (∀ S15 : MST, S15 = ms S14 22 (upd (S14 22) ((11 * (S 38 (a1 : Int32).toNatClampNeg)) + a3 : Int32).toNatClampNeg (vp_nar .boolean 1)) → (vp_in (S 38 (a1 : Int32).toNatClampNeg) 8 ∧ (((((S15 15 (S 38 (a1 : Int32).toNatClampNeg : Int32).toNatClampNeg) : Int32) = 0) → (wj_X12_fails_83 S15 a1 a2 (S 38 (a1 : Int32).toNatClampNeg) Post)) ∧ ((¬ (((S15 15 (S 38 (a1 : Int32).toNatClampNeg : Int32).toNatClampNeg) : Int32) = 0)) → (vp_in a1 16 ∧ (wp_X12_codeNow S15 (S 38 (a1 : Int32).toNatClampNeg) (fun r19 => ((¬ (((S15 40 (a1 : Int32).toNatClampNeg) : Int32) = r19)) → (wj_X12_fails_83 S15 a1 a2 (S 38 (a1 : Int32).toNatClampNeg) Post)) ∧ ((((S15 40 (a1 : Int32).toNatClampNeg) : Int32) = r19) → (vp_in (S 38 (a1 : Int32).toNatClampNeg) 8 ∧ (∀ S21 : MST, S21 = ms S15 15 (upd (S15 15) (S 38 (a1 : Int32).toNatClampNeg : Int32).toNatClampNeg (vp_nar .boolean 0)) → (vp_in (S 38 (a1 : Int32).toNatClampNeg) 8 ∧ (∀ S22 : MST, S22 = ms S21 16 (upd (S21 16) (S 38 (a1 : Int32).toNatClampNeg : Int32).toNatClampNeg 0) → (wj_X12_fails_83 S22 a1 a2 (S 38 (a1 : Int32).toNatClampNeg) Post))))))))))))))))))
def zw_zd_X12_fails_w0 : List Cond := [.fieldLink RX12 117 "TemplateForgeModel" "frameCode" "[I", .fieldLink RX12 114 "TemplateForgeModel" "frameAt" "[I", .fieldLink RX12 120 "TemplateForgeModel" "frameDepth" "[I", .fieldLink RX12 29 "TemplateForgeModel" "depths" "[I", .fieldLink RX12 93 "TemplateForgeModel" "partOf" "[I", .fieldLink RX12 81 "TemplateForgeModel" "partOp" "[I", .code yX12_isBehindCall cX12_isBehindCall 3 (some .boolean), .methodLink RX12 278 yX12_isBehindCall, .instanceMethod yX12_isBehindCall, .selects RX12 yX12_isBehindCall yX12_isBehindCall, .initialized RX12, .fieldLink RX12 111 "TemplateForgeModel" "frameMethod" "[I", .fieldLink RX12 59 "TemplateForgeModel" "guardsFailed" "[I", .fieldLink RX12 275 "TemplateForgeModel" "failed" "I", .fieldLink RX12 71 "TemplateForgeModel" "doesVary" "[Z", .fieldLink RX12 50 "TemplateForgeModel" "hasCode" "[Z"]
def zw_zd_X12_fails_w1 : List Cond := [.code yX12_codeNow cX12_codeNow 2 (some .int), .fieldLink RX12 56 "TemplateForgeModel" "madeCodes" "[I", .methodLink RX12 217 yX12_codeNow, .instanceMethod yX12_codeNow, .selects RX12 yX12_codeNow yX12_codeNow, .fieldLink RX12 53 "TemplateForgeModel" "counted" "[I"]
def zw_zd_X12_fails : List Cond := .code yX12_fails cX12_fails 7 none :: ((zw_zd_X12_fails_w0 ++ (zw_zd_X12_fails_w1)) ++ wsX120)
set_option maxRecDepth 100000 in
theorem zg_zd_X12_fails_zd_X12_isBehindCall_278_a : GoodIn zw_zd_X12_fails [.methodLink RX12 278 yX12_isBehindCall, .instanceMethod yX12_isBehindCall, .selects RX12 yX12_isBehindCall yX12_isBehindCall, .initialized RX12] := goodIn_r _ [8, 9, 10, 11] rfl (by decide +kernel)
set_option maxRecDepth 100000 in
theorem zg_zd_X12_fails_zd_X12_isBehindCall_278_c : GoodIn zw_zd_X12_fails [.code yX12_isBehindCall cX12_isBehindCall 3 (some .boolean)] := goodIn_r _ [7] rfl (by decide +kernel)
set_option maxRecDepth 100000 in
theorem zg_zd_X12_fails_zd_X12_isBehindCall_278_0 : GoodIn zw_zd_X12_fails zw_zd_X12_isBehindCall_w0 := goodIn_r _ [6, 5] rfl (by decide +kernel)
theorem zg_zd_X12_fails_zd_X12_isBehindCall_278 : GoodIn zw_zd_X12_fails (wsV RX12 278 RX12 yX12_isBehindCall zw_zd_X12_isBehindCall) := goodIn_app zg_zd_X12_fails_zd_X12_isBehindCall_278_a (goodIn_ca (a := (zw_zd_X12_isBehindCall_w0)) (show GoodIn zw_zd_X12_fails (.code yX12_isBehindCall cX12_isBehindCall 3 (some .boolean) :: (zw_zd_X12_isBehindCall_w0)) from goodIn_app zg_zd_X12_fails_zd_X12_isBehindCall_278_c (zg_zd_X12_fails_zd_X12_isBehindCall_278_0)) (fun w h => ⟨(fun _ h => List.mem_cons_of_mem _ (List.mem_append_right _ h)) w h, good_of_word (List.all_eq_true.mp zgw_X12 w h)⟩))
set_option maxRecDepth 100000 in
theorem zg_zd_X12_fails_zd_X12_codeNow_217_a : GoodIn zw_zd_X12_fails [.methodLink RX12 217 yX12_codeNow, .instanceMethod yX12_codeNow, .selects RX12 yX12_codeNow yX12_codeNow, .initialized RX12] := goodIn_r _ [19, 20, 21, 11] rfl (by decide +kernel)
set_option maxRecDepth 100000 in
theorem zg_zd_X12_fails_zd_X12_codeNow_217_c : GoodIn zw_zd_X12_fails [.code yX12_codeNow cX12_codeNow 2 (some .int)] := goodIn_r _ [17] rfl (by decide +kernel)
set_option maxRecDepth 100000 in
theorem zg_zd_X12_fails_zd_X12_codeNow_217_0 : GoodIn zw_zd_X12_fails zw_zd_X12_codeNow_w0 := goodIn_r _ [18] rfl (by decide +kernel)
theorem zg_zd_X12_fails_zd_X12_codeNow_217 : GoodIn zw_zd_X12_fails (wsV RX12 217 RX12 yX12_codeNow zw_zd_X12_codeNow) := goodIn_app zg_zd_X12_fails_zd_X12_codeNow_217_a (goodIn_ca (a := (zw_zd_X12_codeNow_w0)) (show GoodIn zw_zd_X12_fails (.code yX12_codeNow cX12_codeNow 2 (some .int) :: (zw_zd_X12_codeNow_w0)) from goodIn_app zg_zd_X12_fails_zd_X12_codeNow_217_c (zg_zd_X12_fails_zd_X12_codeNow_217_0)) (fun w h => ⟨(fun _ h => List.mem_cons_of_mem _ (List.mem_append_right _ h)) w h, good_of_word (List.all_eq_true.mp zgw_X12 w h)⟩))
set_option maxHeartbeats 16000000 in
set_option maxRecDepth 100000 in
theorem zd_X12_fails (l : Launch) (D : va_G) (cI cZ cP cF : Nat) (h0 : Nat) (q : Nat → Nat) (S : MST) (a1 : Int32) (a2 : Int32) (a3 : Int32) (sz : Nat) (Post : MST → Prop) (h : wp_X12_fails S a1 a2 a3 Post) : Met l yX12_fails zw_zd_X12_fails ({ frames := 1, cells := 0, slots := 0, locals := 22 }) (va_Pc [.ref h0, .int a1, .int a2, .int a3] (fun U => U.heap.size = sz ∧ va_P D vwCl (mW cI cZ h0 q S) U.heap ∧ zE D cI cZ cP cF U ∧ va_D (fun _ => True) (mW cI cZ h0 q S))) (va_Qv (fun S' => Post S') (fun (S' : MST) t => va_P D vwCl (mW cI cZ h0 q S') t.heap ∧ va_D (va_A (mW cI cZ h0 q S) sz) (mW cI cZ h0 q S')) (va_A (mW cI cZ h0 q S) sz)) 0 0 (va_A (mW cI cZ h0 q S) sz) := by
  unfold wp_X12_fails at h
  refine Met.ofW (cc := cX12_fails) (maxL := 7) (ret := none) (by decide) rfl ?_
  intro p e s m args below meth c s₁ B hml hv
  obtain ⟨rfl, hsz, hP, hE, hD0⟩ := hv
  have hx := B.exec
  have hb := B.bytes
  have hr := B.returns
  have hts := atoms_spec (ws := zw_zd_X12_fails) B.pre
  have hown : s.vm.findClass RX12 = some m.cls := findClass_of_methodNamed B.named
  have hlocks := B.notSynchronized
  have hK := hE.k
  subst hsz
  have hD := hD0.self (sz := s.heap.size)
  generalize hAe : va_A (mW cI cZ h0 q S) s.heap.size = A at hD ⊢
  have hA : ∀ q : Nat, s.heap.size ≤ q → A q := fun q h => by rw [← hAe]; exact Or.inr h
  have hl := lv_entry ([.ref h0, .int a1, .int a2, .int a3]) (n := 7) (Nat.le_of_ble_eq_true rfl)
  rw [lg_entry_eq]
  generalize (lg_sl ([.ref h0, .int a1, .int a2, .int a3]) ++ List.replicate (7 - (lg_sl ([.ref h0, .int a1, .int a2, .int a3])).length) Slot.unset).toArray = ls at hl ⊢
  have hl : lv_has ls 7 [(0, .ref h0), (1, .int a1), (2, .int a2), (3, .int a3)] := hl
  have key : ∀ (H : Heap) (locs : List Loc), va_P D vwCl (mW cI cZ h0 q S) H → va_S A s.heap H locs → W p l e (headSpec zw_zd_X12_fails ({ frames := 1, cells := 0, slots := 0, locals := 22 })).room s m ([.ref h0, .int a1, .int a2, .int a3] : List Value).toArray below meth c H locs 0 0 (MQ below (va_Qv (fun S' => Post S') (fun (S' : MST) t => va_P D vwCl (mW cI cZ h0 q S') t.heap ∧ va_D A (mW cI cZ h0 q S')) A) ([.ref h0, .int a1, .int a2, .int a3] : List Value).toArray s 0 0 A) (F0 m 0 ls []) := by
    intro H locs hP hS
    have J_128 : ∀ (S_128 : MST) (x128_1 : Int32) (x128_4 : Int32) (x128_6 : Int32) (H : Heap) (locs : List Loc) (ls : Array Slot), wj_X12_fails_128 S_128 x128_1 x128_4 x128_6 Post → va_P D vwCl (mW cI cZ h0 q S_128) H → va_D A (mW cI cZ h0 q S_128) → va_S A s.heap H locs → lv_has ls 7 [(0, .ref h0), (1, .int x128_1), (4, .int x128_4), (6, .int x128_6)] → W p l e (headSpec zw_zd_X12_fails ({ frames := 1, cells := 0, slots := 0, locals := 22 })).room s m ([.ref h0, .int a1, .int a2, .int a3] : List Value).toArray below meth c H locs 0 0 (MQ below (va_Qv (fun S' => Post S') (fun (S' : MST) t => va_P D vwCl (mW cI cZ h0 q S') t.heap ∧ va_D A (mW cI cZ h0 q S')) A) ([.ref h0, .int a1, .int a2, .int a3] : List Value).toArray s 0 0 A) (F0 m 128 ls []) := by
      intro S_128 x128_1 x128_4 x128_6 H locs ls h hP hD hS hl
      unfold wj_X12_fails_128 at h
      refine lv_aload_n hx hb dX12_fails_128 rfl (lv_at hl 0 rfl) ?_
      refine va_get (D := D) (ci := 12) (v := .ref (q 40)) (C := RX12) (T := TX12) (N := 52) hx hb hts (fun _ h => List.mem_cons_of_mem _ (List.mem_append_right _ h)) hown hK hP 0 rfl rfl 40 (by decide) (hts (.fieldLink RX12 117 "TemplateForgeModel" "frameCode" "[I") (List.mem_of_getElem? (i := 1) rfl)) (fun _ h9 => h9) rfl dX12_fails_129 ?_
      refine lv_iload_n hx hb dX12_fails_132 rfl (lv_at hl 1 rfl) ?_
      refine lv_iconst (v := (-1)) hx hb dX12_fails_133 (by decide) ?_
      have hin_1 := h.1
      have h := h.2
      refine va_iast hx hb hK hP hD hS 36 0 rfl rfl hin_1 dX12_fails_134 (fun H locs hP hD hS => ?_)
      obtain ⟨S1, eS1⟩ : ∃ z, z = ms S_128 40 (upd (S_128 40) (x128_1 : Int32).toNatClampNeg (-1)) := ⟨_, rfl⟩
      have hP : va_P D vwCl (mW cI cZ h0 q S1) H := by rw [eS1]; exact hP
      have hD : va_D A (mW cI cZ h0 q S1) := by rw [eS1]; exact hD
      have h := h S1 eS1
      refine lv_aload_n hx hb dX12_fails_135 rfl (lv_at hl 0 rfl) ?_
      refine va_get (D := D) (ci := 12) (v := .ref (q 39)) (C := RX12) (T := TX12) (N := 52) hx hb hts (fun _ h => List.mem_cons_of_mem _ (List.mem_append_right _ h)) hown hK hP 0 rfl rfl 39 (by decide) (hts (.fieldLink RX12 114 "TemplateForgeModel" "frameAt" "[I") (List.mem_of_getElem? (i := 2) rfl)) (fun _ h9 => h9) rfl dX12_fails_136 ?_
      refine lv_iload_n hx hb dX12_fails_139 rfl (lv_at hl 1 rfl) ?_
      refine lv_iload hx hb dX12_fails_140 (lv_at hl 3 rfl) ?_
      have hin_2 := h.1
      have h := h.2
      refine va_iast hx hb hK hP hD hS 35 0 rfl rfl hin_2 dX12_fails_142 (fun H locs hP hD hS => ?_)
      obtain ⟨S2, eS2⟩ : ∃ z, z = ms S1 39 (upd (S1 39) (x128_1 : Int32).toNatClampNeg x128_6) := ⟨_, rfl⟩
      have hP : va_P D vwCl (mW cI cZ h0 q S2) H := by rw [eS2]; exact hP
      have hD : va_D A (mW cI cZ h0 q S2) := by rw [eS2]; exact hD
      have h := h S2 eS2
      refine lv_aload_n hx hb dX12_fails_143 rfl (lv_at hl 0 rfl) ?_
      refine va_get (D := D) (ci := 12) (v := .ref (q 41)) (C := RX12) (T := TX12) (N := 52) hx hb hts (fun _ h => List.mem_cons_of_mem _ (List.mem_append_right _ h)) hown hK hP 0 rfl rfl 41 (by decide) (hts (.fieldLink RX12 120 "TemplateForgeModel" "frameDepth" "[I") (List.mem_of_getElem? (i := 3) rfl)) (fun _ h9 => h9) rfl dX12_fails_144 ?_
      refine lv_iload_n hx hb dX12_fails_147 rfl (lv_at hl 1 rfl) ?_
      refine lv_aload_n hx hb dX12_fails_148 rfl (lv_at hl 0 rfl) ?_
      refine va_get (D := D) (ci := 12) (v := .ref (q 7)) (C := RX12) (T := TX12) (N := 52) hx hb hts (fun _ h => List.mem_cons_of_mem _ (List.mem_append_right _ h)) hown hK hP 0 rfl rfl 7 (by decide) (hts (.fieldLink RX12 29 "TemplateForgeModel" "depths" "[I") (List.mem_of_getElem? (i := 4) rfl)) (fun _ h9 => h9) rfl dX12_fails_149 ?_
      refine lv_bipush (v := 60) hx hb dX12_fails_152 (by decide) ?_
      refine lv_iload hx hb dX12_fails_154 (lv_at hl 2 rfl) ?_
      refine lv_imul hx hb dX12_fails_156 ?_
      refine lv_iload hx hb dX12_fails_157 (lv_at hl 3 rfl) ?_
      refine lv_iadd hx hb dX12_fails_159 ?_
      have hin_3 := h.1
      have h := h.2
      refine va_iald hx hb hK hP 7 0 rfl rfl hin_3 dX12_fails_160 ?_
      have hin_4 := h.1
      have h := h.2
      refine va_iast hx hb hK hP hD hS 37 0 rfl rfl hin_4 dX12_fails_161 (fun H locs hP hD hS => ?_)
      obtain ⟨S4, eS4⟩ : ∃ z, z = ms S2 41 (upd (S2 41) (x128_1 : Int32).toNatClampNeg (S2 7 ((60 * x128_4) + x128_6 : Int32).toNatClampNeg)) := ⟨_, rfl⟩
      have hP : va_P D vwCl (mW cI cZ h0 q S4) H := by rw [eS4]; exact hP
      have hD : va_D A (mW cI cZ h0 q S4) := by rw [eS4]; exact hD
      have h := h S4 eS4
      exact W.vret hx hb hr (fun t ht hW => ⟨⟨S4, rfl, h, by rw [ht]; exact hP, hD⟩, hS.F ht⟩) hS.2.2 dX12_fails_162
    have J_109 : ∀ (S_109 : MST) (x109_1 : Int32) (x109_2 : Int32) (x109_4 : Int32) (x109_5 : Int32) (H : Heap) (locs : List Loc) (ls : Array Slot), wj_X12_fails_109 S_109 x109_1 x109_2 x109_4 x109_5 Post → va_P D vwCl (mW cI cZ h0 q S_109) H → va_D A (mW cI cZ h0 q S_109) → va_S A s.heap H locs → lv_has ls 7 [(0, .ref h0), (1, .int x109_1), (2, .int x109_2), (4, .int x109_4), (5, .int x109_5)] → W p l e (headSpec zw_zd_X12_fails ({ frames := 1, cells := 0, slots := 0, locals := 22 })).room s m ([.ref h0, .int a1, .int a2, .int a3] : List Value).toArray below meth c H locs 0 0 (MQ below (va_Qv (fun S' => Post S') (fun (S' : MST) t => va_P D vwCl (mW cI cZ h0 q S') t.heap ∧ va_D A (mW cI cZ h0 q S')) A) ([.ref h0, .int a1, .int a2, .int a3] : List Value).toArray s 0 0 A) (F0 m 109 ls []) := by
      intro S_109 x109_1 x109_2 x109_4 x109_5 H locs ls h hP hD hS hl
      unfold wj_X12_fails_109 at h
      refine lv_iload hx hb dX12_fails_109 (lv_at hl 4 rfl) ?_
      refine lv_if_eq (tgt := 125) hx hb dX12_fails_111 (by decide) (fun c_5 => ?_) (fun c_5 => ?_)
      · have h := h.1 c_5
        refine lv_iconst (v := 0) hx hb dX12_fails_125 (by decide) ?_
        refine lv_istore (lv' := [(6, .int 0), (0, .ref h0), (1, .int x109_1), (2, .int x109_2), (4, .int x109_4), (5, .int x109_5)]) hx hb dX12_fails_126 hl (by decide) rfl (fun ls hl => ?_)
        exact J_128  S_109 x109_1 x109_4 0 H locs _ h hP hD hS (lv_sub hl [1, 2, 4, 0] rfl)
      · have h := h.2 c_5
        refine lv_aload_n hx hb dX12_fails_114 rfl (lv_at hl 0 rfl) ?_
        refine va_get (D := D) (ci := 12) (v := .ref (q 29)) (C := RX12) (T := TX12) (N := 52) hx hb hts (fun _ h => List.mem_cons_of_mem _ (List.mem_append_right _ h)) hown hK hP 0 rfl rfl 29 (by decide) (hts (.fieldLink RX12 93 "TemplateForgeModel" "partOf" "[I") (List.mem_of_getElem? (i := 5) rfl)) (fun _ h9 => h9) rfl dX12_fails_115 ?_
        refine lv_iload_n hx hb dX12_fails_118 rfl (lv_at hl 2 rfl) ?_
        have hin_6 := h.1
        have h := h.2
        refine va_iald hx hb hK hP 28 0 rfl rfl hin_6 dX12_fails_119 ?_
        refine lv_iconst (v := 1) hx hb dX12_fails_120 (by decide) ?_
        refine lv_iadd hx hb dX12_fails_121 ?_
        refine lv_goto (tgt := 126) hx hb dX12_fails_122 (by decide) ?_
        refine lv_istore (lv' := [(6, .int ((S_109 29 (x109_2 : Int32).toNatClampNeg) + 1)), (0, .ref h0), (1, .int x109_1), (2, .int x109_2), (4, .int x109_4), (5, .int x109_5)]) hx hb dX12_fails_126 hl (by decide) rfl (fun ls hl => ?_)
        exact J_128  S_109 x109_1 x109_4 ((S_109 29 (x109_2 : Int32).toNatClampNeg) + 1) H locs _ h hP hD hS (lv_sub hl [1, 2, 4, 0] rfl)
    have J_83 : ∀ (S_83 : MST) (x83_1 : Int32) (x83_2 : Int32) (x83_4 : Int32) (H : Heap) (locs : List Loc) (ls : Array Slot), wj_X12_fails_83 S_83 x83_1 x83_2 x83_4 Post → va_P D vwCl (mW cI cZ h0 q S_83) H → va_D A (mW cI cZ h0 q S_83) → va_S A s.heap H locs → lv_has ls 7 [(0, .ref h0), (1, .int x83_1), (2, .int x83_2), (4, .int x83_4)] → W p l e (headSpec zw_zd_X12_fails ({ frames := 1, cells := 0, slots := 0, locals := 22 })).room s m ([.ref h0, .int a1, .int a2, .int a3] : List Value).toArray below meth c H locs 0 0 (MQ below (va_Qv (fun S' => Post S') (fun (S' : MST) t => va_P D vwCl (mW cI cZ h0 q S') t.heap ∧ va_D A (mW cI cZ h0 q S')) A) ([.ref h0, .int a1, .int a2, .int a3] : List Value).toArray s 0 0 A) (F0 m 83 ls []) := by
      intro S_83 x83_1 x83_2 x83_4 H locs ls h hP hD hS hl
      unfold wj_X12_fails_83 at h
      refine lv_aload_n hx hb dX12_fails_83 rfl (lv_at hl 0 rfl) ?_
      refine va_get (D := D) (ci := 12) (v := .ref (q 25)) (C := RX12) (T := TX12) (N := 52) hx hb hts (fun _ h => List.mem_cons_of_mem _ (List.mem_append_right _ h)) hown hK hP 0 rfl rfl 25 (by decide) (hts (.fieldLink RX12 81 "TemplateForgeModel" "partOp" "[I") (List.mem_of_getElem? (i := 6) rfl)) (fun _ h9 => h9) rfl dX12_fails_84 ?_
      refine lv_iload_n hx hb dX12_fails_87 rfl (lv_at hl 2 rfl) ?_
      have hin_7 := h.1
      have h := h.2
      refine va_iald hx hb hK hP 24 0 rfl rfl hin_7 dX12_fails_88 ?_
      refine lv_bipush (v := 18) hx hb dX12_fails_89 (by decide) ?_
      refine lv_icmp_ne (tgt := 106) hx hb dX12_fails_91 (by decide) (fun c_8 => ?_) (fun c_8 => ?_)
      · have h := h.1 c_8
        refine lv_iconst (v := 0) hx hb dX12_fails_106 (by decide) ?_
        refine lv_istore (lv' := [(5, .int 0), (0, .ref h0), (1, .int x83_1), (2, .int x83_2), (4, .int x83_4)]) hx hb dX12_fails_107 hl (by decide) rfl (fun ls hl => ?_)
        exact J_109  S_83 x83_1 x83_2 x83_4 0 H locs _ h hP hD hS (lv_sub hl [1, 2, 3, 4, 0] rfl)
      · have h := h.2 c_8
        refine lv_aload_n hx hb dX12_fails_94 rfl (lv_at hl 0 rfl) ?_
        refine lv_iload_n hx hb dX12_fails_95 rfl (lv_at hl 2 rfl) ?_
        refine vp_callSi (va_Run.run (va_runV (As := [.int x83_2]) (rest := []) ⟨hx, hb, hml, hown, hts⟩ (zd_X12_isBehindCall l D cI cZ cP cF h0 q S_83 x83_2  _ h) (cwV 1 hts zg_zd_X12_fails_zd_X12_isBehindCall_278 rfl rfl rfl (by decide +kernel) ⟨Nat.le_of_ble_eq_true rfl, Nat.le_of_ble_eq_true rfl⟩) ⟨zBR, va_recv hK hP (ci := 12) (q0 := 0) rfl rfl, fun U hU hW => ⟨rfl, by rw [hU]; exact hP, hE.warm hW⟩⟩ rfl rfl hl.1 rfl (lv_room (Nat.le_of_ble_eq_true rfl)) dX12_fails_96 ⟨Nat.le_of_ble_eq_true rfl, Nat.le_of_ble_eq_true rfl⟩)) (fun r9 h => ?_)
        refine lv_if_eq (tgt := 106) hx hb dX12_fails_99 (by decide) (fun c_10 => ?_) (fun c_10 => ?_)
        · have h := h.1 c_10
          refine lv_iconst (v := 0) hx hb dX12_fails_106 (by decide) ?_
          refine lv_istore (lv' := [(5, .int 0), (0, .ref h0), (1, .int x83_1), (2, .int x83_2), (4, .int x83_4)]) hx hb dX12_fails_107 hl (by decide) rfl (fun ls hl => ?_)
          exact J_109  S_83 x83_1 x83_2 x83_4 0 H locs _ h hP hD hS (lv_sub hl [1, 2, 3, 4, 0] rfl)
        · have h := h.2 c_10
          refine lv_iconst (v := 1) hx hb dX12_fails_102 (by decide) ?_
          refine lv_goto (tgt := 107) hx hb dX12_fails_103 (by decide) ?_
          refine lv_istore (lv' := [(5, .int 1), (0, .ref h0), (1, .int x83_1), (2, .int x83_2), (4, .int x83_4)]) hx hb dX12_fails_107 hl (by decide) rfl (fun ls hl => ?_)
          exact J_109  S_83 x83_1 x83_2 x83_4 1 H locs _ h hP hD hS (lv_sub hl [1, 2, 3, 4, 0] rfl)
    refine lv_aload_n hx hb dX12_fails_0 rfl (lv_at hl 0 rfl) ?_
    refine va_get (D := D) (ci := 12) (v := .ref (q 38)) (C := RX12) (T := TX12) (N := 52) hx hb hts (fun _ h => List.mem_cons_of_mem _ (List.mem_append_right _ h)) hown hK hP 0 rfl rfl 38 (by decide) (hts (.fieldLink RX12 111 "TemplateForgeModel" "frameMethod" "[I") (List.mem_of_getElem? (i := 12) rfl)) (fun _ h9 => h9) rfl dX12_fails_1 ?_
    refine lv_iload_n hx hb dX12_fails_4 rfl (lv_at hl 1 rfl) ?_
    have hin_11 := h.1
    have h := h.2
    refine va_iald hx hb hK hP 34 0 rfl rfl hin_11 dX12_fails_5 ?_
    refine lv_istore (lv' := [(4, .int (S 38 (a1 : Int32).toNatClampNeg)), (0, .ref h0), (1, .int a1), (2, .int a2), (3, .int a3)]) hx hb dX12_fails_6 hl (by decide) rfl (fun ls hl => ?_)
    refine lv_aload_n hx hb dX12_fails_8 rfl (lv_at hl 1 rfl) ?_
    refine va_get (D := D) (ci := 12) (v := .ref (q 18)) (C := RX12) (T := TX12) (N := 52) hx hb hts (fun _ h => List.mem_cons_of_mem _ (List.mem_append_right _ h)) hown hK hP 0 rfl rfl 18 (by decide) (hts (.fieldLink RX12 59 "TemplateForgeModel" "guardsFailed" "[I") (List.mem_of_getElem? (i := 13) rfl)) (fun _ h9 => h9) rfl dX12_fails_9 ?_
    refine lv_iload hx hb dX12_fails_12 (lv_at hl 0 rfl) ?_
    refine lv_dup2_11 hx hb dX12_fails_14 rfl rfl ?_
    have hin_12 := h.1
    have h := h.2
    refine va_iald hx hb hK hP 17 0 rfl rfl hin_12 dX12_fails_15 ?_
    refine lv_iconst (v := 1) hx hb dX12_fails_16 (by decide) ?_
    refine lv_iadd hx hb dX12_fails_17 ?_
    have hin_13 := h.1
    have h := h.2
    refine va_iast hx hb hK hP hD hS 17 0 rfl rfl hin_13 dX12_fails_18 (fun H locs hP hD hS => ?_)
    obtain ⟨S13, eS13⟩ : ∃ z, z = ms S 18 (upd (S 18) (S 38 (a1 : Int32).toNatClampNeg : Int32).toNatClampNeg ((S 18 (S 38 (a1 : Int32).toNatClampNeg : Int32).toNatClampNeg) + 1)) := ⟨_, rfl⟩
    have hP : va_P D vwCl (mW cI cZ h0 q S13) H := by rw [eS13]; exact hP
    have hD : va_D A (mW cI cZ h0 q S13) := by rw [eS13]; exact hD
    have h := h S13 eS13
    refine lv_aload_n hx hb dX12_fails_19 rfl (lv_at hl 1 rfl) ?_
    refine lv_dup hx hb dX12_fails_20 rfl ?_
    refine va_get (D := D) (ci := 12) (v := .int (S13 47 0)) (C := RX12) (T := TX12) (N := 52) hx hb hts (fun _ h => List.mem_cons_of_mem _ (List.mem_append_right _ h)) hown hK hP 0 rfl rfl 47 (by decide) (hts (.fieldLink RX12 275 "TemplateForgeModel" "failed" "I") (List.mem_of_getElem? (i := 14) rfl)) (fun _ h9 => h9) rfl dX12_fails_21 ?_
    refine lv_iconst (v := 1) hx hb dX12_fails_24 (by decide) ?_
    refine lv_iadd hx hb dX12_fails_25 ?_
    refine va_put (D := D) (ci := 12) (v := .int ((S13 47 0) + 1)) (ty := .int) (C := RX12) (T := TX12) (N := 52) hx hb hts (fun _ h => List.mem_cons_of_mem _ (List.mem_append_right _ h)) tyX12 tyX12_ok nmX12 hown hK hP hD hS 0 rfl rfl 47 (by decide) (hts (.fieldLink RX12 275 "TemplateForgeModel" "failed" "I") (List.mem_of_getElem? (i := 14) rfl)) (fun _ h9 => h9) rfl (by decide +kernel) rfl rfl (Nat.le_of_ble_eq_true rfl) dX12_fails_26 (fun H locs hP hD hS => ?_)
    obtain ⟨S14, eS14⟩ : ∃ z, z = ms S13 47 (fun _ => (S13 47 0) + 1) := ⟨_, rfl⟩
    have hP : va_P D vwCl (mW cI cZ h0 q S14) H := by rw [eS14]; exact hP
    have hD : va_D A (mW cI cZ h0 q S14) := by rw [eS14]; exact hD
    have h := h S14 eS14
    refine lv_aload_n hx hb dX12_fails_29 rfl (lv_at hl 1 rfl) ?_
    refine va_get (D := D) (ci := 12) (v := .ref (q 22)) (C := RX12) (T := TX12) (N := 52) hx hb hts (fun _ h => List.mem_cons_of_mem _ (List.mem_append_right _ h)) hown hK hP 0 rfl rfl 22 (by decide) (hts (.fieldLink RX12 71 "TemplateForgeModel" "doesVary" "[Z") (List.mem_of_getElem? (i := 15) rfl)) (fun _ h9 => h9) rfl dX12_fails_30 ?_
    refine lv_bipush (v := 11) hx hb dX12_fails_33 (by decide) ?_
    refine lv_iload hx hb dX12_fails_35 (lv_at hl 0 rfl) ?_
    refine lv_imul hx hb dX12_fails_37 ?_
    refine lv_iload_n hx hb dX12_fails_38 rfl (lv_at hl 4 rfl) ?_
    refine lv_iadd hx hb dX12_fails_39 ?_
    refine lv_iconst (v := 1) hx hb dX12_fails_40 (by decide) ?_
    have hin_15 := h.1
    have h := h.2
    refine va_zast hx hb hK hP hD hS 21 1 rfl rfl hin_15 dX12_fails_41 (fun H locs hP hD hS => ?_)
    obtain ⟨S15, eS15⟩ : ∃ z, z = ms S14 22 (upd (S14 22) ((11 * (S 38 (a1 : Int32).toNatClampNeg)) + a3 : Int32).toNatClampNeg (vp_nar .boolean 1)) := ⟨_, rfl⟩
    have hP : va_P D vwCl (mW cI cZ h0 q S15) H := by rw [eS15]; exact hP
    have hD : va_D A (mW cI cZ h0 q S15) := by rw [eS15]; exact hD
    have h := h S15 eS15
    refine lv_aload_n hx hb dX12_fails_42 rfl (lv_at hl 1 rfl) ?_
    refine va_get (D := D) (ci := 12) (v := .ref (q 15)) (C := RX12) (T := TX12) (N := 52) hx hb hts (fun _ h => List.mem_cons_of_mem _ (List.mem_append_right _ h)) hown hK hP 0 rfl rfl 15 (by decide) (hts (.fieldLink RX12 50 "TemplateForgeModel" "hasCode" "[Z") (List.mem_of_getElem? (i := 16) rfl)) (fun _ h9 => h9) rfl dX12_fails_43 ?_
    refine lv_iload hx hb dX12_fails_46 (lv_at hl 0 rfl) ?_
    have hin_16 := h.1
    have h := h.2
    refine va_zald hx hb hK hP 14 1 rfl rfl hin_16 dX12_fails_48 ?_
    refine lv_if_eq (tgt := 83) hx hb dX12_fails_49 (by decide) (fun c_17 => ?_) (fun c_17 => ?_)
    · have h := h.1 c_17
      exact J_83  S15 a1 a2 (S 38 (a1 : Int32).toNatClampNeg) H locs _ h hP hD hS (lv_sub hl [1, 2, 3, 0] rfl)
    · have h := h.2 c_17
      refine lv_aload_n hx hb dX12_fails_52 rfl (lv_at hl 1 rfl) ?_
      refine va_get (D := D) (ci := 12) (v := .ref (q 40)) (C := RX12) (T := TX12) (N := 52) hx hb hts (fun _ h => List.mem_cons_of_mem _ (List.mem_append_right _ h)) hown hK hP 0 rfl rfl 40 (by decide) (hts (.fieldLink RX12 117 "TemplateForgeModel" "frameCode" "[I") (List.mem_of_getElem? (i := 1) rfl)) (fun _ h9 => h9) rfl dX12_fails_53 ?_
      refine lv_iload_n hx hb dX12_fails_56 rfl (lv_at hl 2 rfl) ?_
      have hin_18 := h.1
      have h := h.2
      refine va_iald hx hb hK hP 36 0 rfl rfl hin_18 dX12_fails_57 ?_
      refine lv_aload_n hx hb dX12_fails_58 rfl (lv_at hl 1 rfl) ?_
      refine lv_iload hx hb dX12_fails_59 (lv_at hl 0 rfl) ?_
      refine vp_callSi (va_Run.run (va_runV (As := [.int (S 38 (a1 : Int32).toNatClampNeg)]) (rest := [.int (S15 40 (a1 : Int32).toNatClampNeg)]) ⟨hx, hb, hml, hown, hts⟩ (zd_X12_codeNow l D cI cZ cP cF h0 q S15 (S 38 (a1 : Int32).toNatClampNeg)  _ h) (cwV 1 hts zg_zd_X12_fails_zd_X12_codeNow_217 rfl rfl rfl (by decide +kernel) ⟨Nat.le_of_ble_eq_true rfl, Nat.le_of_ble_eq_true rfl⟩) ⟨zBR, va_recv hK hP (ci := 12) (q0 := 0) rfl rfl, fun U hU hW => ⟨rfl, by rw [hU]; exact hP, hE.warm hW⟩⟩ rfl rfl hl.1 rfl (lv_room (Nat.le_of_ble_eq_true rfl)) dX12_fails_61 ⟨Nat.le_of_ble_eq_true rfl, Nat.le_of_ble_eq_true rfl⟩)) (fun r19 h => ?_)
      refine lv_icmp_ne (tgt := 83) hx hb dX12_fails_64 (by decide) (fun c_20 => ?_) (fun c_20 => ?_)
      · have h := h.1 c_20
        exact J_83  S15 a1 a2 (S 38 (a1 : Int32).toNatClampNeg) H locs _ h hP hD hS (lv_sub hl [1, 2, 3, 0] rfl)
      · have h := h.2 c_20
        refine lv_aload_n hx hb dX12_fails_67 rfl (lv_at hl 1 rfl) ?_
        refine va_get (D := D) (ci := 12) (v := .ref (q 15)) (C := RX12) (T := TX12) (N := 52) hx hb hts (fun _ h => List.mem_cons_of_mem _ (List.mem_append_right _ h)) hown hK hP 0 rfl rfl 15 (by decide) (hts (.fieldLink RX12 50 "TemplateForgeModel" "hasCode" "[Z") (List.mem_of_getElem? (i := 16) rfl)) (fun _ h9 => h9) rfl dX12_fails_68 ?_
        refine lv_iload hx hb dX12_fails_71 (lv_at hl 0 rfl) ?_
        refine lv_iconst (v := 0) hx hb dX12_fails_73 (by decide) ?_
        have hin_21 := h.1
        have h := h.2
        refine va_zast hx hb hK hP hD hS 14 1 rfl rfl hin_21 dX12_fails_74 (fun H locs hP hD hS => ?_)
        obtain ⟨S21, eS21⟩ : ∃ z, z = ms S15 15 (upd (S15 15) (S 38 (a1 : Int32).toNatClampNeg : Int32).toNatClampNeg (vp_nar .boolean 0)) := ⟨_, rfl⟩
        have hP : va_P D vwCl (mW cI cZ h0 q S21) H := by rw [eS21]; exact hP
        have hD : va_D A (mW cI cZ h0 q S21) := by rw [eS21]; exact hD
        have h := h S21 eS21
        refine lv_aload_n hx hb dX12_fails_75 rfl (lv_at hl 1 rfl) ?_
        refine va_get (D := D) (ci := 12) (v := .ref (q 16)) (C := RX12) (T := TX12) (N := 52) hx hb hts (fun _ h => List.mem_cons_of_mem _ (List.mem_append_right _ h)) hown hK hP 0 rfl rfl 16 (by decide) (hts (.fieldLink RX12 53 "TemplateForgeModel" "counted" "[I") (List.mem_of_getElem? (i := 22) rfl)) (fun _ h9 => h9) rfl dX12_fails_76 ?_
        refine lv_iload hx hb dX12_fails_79 (lv_at hl 0 rfl) ?_
        refine lv_iconst (v := 0) hx hb dX12_fails_81 (by decide) ?_
        have hin_22 := h.1
        have h := h.2
        refine va_iast hx hb hK hP hD hS 15 0 rfl rfl hin_22 dX12_fails_82 (fun H locs hP hD hS => ?_)
        obtain ⟨S22, eS22⟩ : ∃ z, z = ms S21 16 (upd (S21 16) (S 38 (a1 : Int32).toNatClampNeg : Int32).toNatClampNeg 0) := ⟨_, rfl⟩
        have hP : va_P D vwCl (mW cI cZ h0 q S22) H := by rw [eS22]; exact hP
        have hD : va_D A (mW cI cZ h0 q S22) := by rw [eS22]; exact hD
        have h := h S22 eS22
        exact J_83  S22 a1 a2 (S 38 (a1 : Int32).toNatClampNeg) H locs _ h hP hD hS (lv_sub hl [1, 2, 3, 0] rfl)
  exact key _ _ hP va_S.rf
def wp_X12_fault (S : MST) (Post : Int32 → Prop) : Prop :=
  Post (S 9 0)
def zw_zd_X12_fault_w0 : List Cond := [.fieldLink RX12 168 "TemplateForgeModel" "fault" "I"]
def zw_zd_X12_fault : List Cond := .code yX12_fault cX12_fault 1 (some .int) :: ((zw_zd_X12_fault_w0) ++ wsX120)
set_option maxHeartbeats 16000000 in
set_option maxRecDepth 100000 in
theorem zd_X12_fault (l : Launch) (D : va_G) (cI cZ cP cF : Nat) (h0 : Nat) (q : Nat → Nat) (S : MST) (Post : Int32 → Prop) (h : wp_X12_fault S Post) : Met l yX12_fault zw_zd_X12_fault ({ frames := 0, cells := 0, slots := 0, locals := 0 }) (va_Pc [.ref h0] (fun U => va_P D vwCl (mW cI cZ h0 q S) U.heap ∧ zE D cI cZ cP cF U)) (vp_Si Post) 0 0 (fun _ => False) := by
  unfold wp_X12_fault at h
  refine Met.ofW (cc := cX12_fault) (maxL := 1) (ret := (some .int)) (by decide) rfl ?_
  intro p e s m args below meth c s₁ B hml hv
  obtain ⟨rfl, hP, hE⟩ := hv
  have hx := B.exec
  have hb := B.bytes
  have hr := B.returns
  have hts := atoms_spec (ws := zw_zd_X12_fault) B.pre
  have hown : s.vm.findClass RX12 = some m.cls := findClass_of_methodNamed B.named
  have hlocks := B.notSynchronized
  have hK := hE.k
  have hl := lv_entry ([.ref h0]) (n := 1) (Nat.le_of_ble_eq_true rfl)
  rw [lg_entry_eq]
  generalize (lg_sl ([.ref h0]) ++ List.replicate (1 - (lg_sl ([.ref h0])).length) Slot.unset).toArray = ls at hl ⊢
  have hl : lv_has ls 1 [(0, .ref h0)] := hl
  refine lv_aload_n hx hb dX12_fault_0 rfl (lv_at hl 0 rfl) ?_
  refine va_get (D := D) (ci := 12) (v := .int (S 9 0)) (C := RX12) (T := TX12) (N := 52) hx hb hts (fun _ h => List.mem_cons_of_mem _ (List.mem_append_right _ h)) hown hK hP 0 rfl rfl 9 (by decide) (hts (.fieldLink RX12 168 "TemplateForgeModel" "fault" "I") (List.mem_of_getElem? (i := 1) rfl)) (fun _ h9 => h9) rfl dX12_fault_1 ?_
  exact W.iret (v := S 9 0) hx hb hr (fun t ht hW => ⟨_, rfl, h, ht⟩) (fun q h => by cases h) dX12_fault_4
def wp_X12_field (S : MST) (a1 : Int32) (Post : Int32 → Prop) : Prop :=
  wp_X12_in ((a1 : Int32).toInt64) 0 7 (fun r1 => (((r1 : Int32) = 0) → (Post (-2147483648))) ∧ ((¬ ((r1 : Int32) = 0)) → (vp_in a1 8 ∧ (Post (S 12 (a1 : Int32).toNatClampNeg)))))
def zw_zd_X12_field_w0 : List Cond := [.constantLong RX12 150 (7), .code yX12_in cX12_in 6 (some .boolean), .methodLink RX12 134 yX12_in, .static yX12_in, .initialized RX12, .constant RX12 177 (-2147483648), .fieldLink RX12 41 "TemplateForgeModel" "fields" "[I"]
def zw_zd_X12_field : List Cond := .code yX12_field cX12_field 2 (some .int) :: ((zw_zd_X12_field_w0) ++ wsX120)
set_option maxRecDepth 100000 in
theorem zg_zd_X12_field_zd_X12_in_134_a : GoodIn zw_zd_X12_field [.methodLink RX12 134 yX12_in, .static yX12_in, .initialized RX12] := goodIn_r _ [3, 4, 5] rfl (by decide +kernel)
set_option maxRecDepth 100000 in
theorem zg_zd_X12_field_zd_X12_in_134_c : GoodIn zw_zd_X12_field [.code yX12_in cX12_in 6 (some .boolean)] := goodIn_r _ [2] rfl (by decide +kernel)
theorem zg_zd_X12_field_zd_X12_in_134 : GoodIn zw_zd_X12_field (va_wsS RX12 134 yX12_in zw_zd_X12_in) := goodIn_app zg_zd_X12_field_zd_X12_in_134_a (show GoodIn zw_zd_X12_field (.code yX12_in cX12_in 6 (some .boolean) :: (([] : List Cond))) from zg_zd_X12_field_zd_X12_in_134_c)
set_option maxHeartbeats 16000000 in
set_option maxRecDepth 100000 in
theorem zd_X12_field (l : Launch) (D : va_G) (cI cZ cP cF : Nat) (h0 : Nat) (q : Nat → Nat) (S : MST) (a1 : Int32) (Post : Int32 → Prop) (h : wp_X12_field S a1 Post) : Met l yX12_field zw_zd_X12_field ({ frames := 1, cells := 0, slots := 0, locals := 25 }) (va_Pc [.ref h0, .int a1] (fun U => va_P D vwCl (mW cI cZ h0 q S) U.heap ∧ zE D cI cZ cP cF U)) (vp_Si Post) 0 0 (fun _ => False) := by
  unfold wp_X12_field at h
  refine Met.ofW (cc := cX12_field) (maxL := 2) (ret := (some .int)) (by decide) rfl ?_
  intro p e s m args below meth c s₁ B hml hv
  obtain ⟨rfl, hP, hE⟩ := hv
  have hx := B.exec
  have hb := B.bytes
  have hr := B.returns
  have hts := atoms_spec (ws := zw_zd_X12_field) B.pre
  have hown : s.vm.findClass RX12 = some m.cls := findClass_of_methodNamed B.named
  have hlocks := B.notSynchronized
  have hK := hE.k
  have hl := lv_entry ([.ref h0, .int a1]) (n := 2) (Nat.le_of_ble_eq_true rfl)
  rw [lg_entry_eq]
  generalize (lg_sl ([.ref h0, .int a1]) ++ List.replicate (2 - (lg_sl ([.ref h0, .int a1])).length) Slot.unset).toArray = ls at hl ⊢
  have hl : lv_has ls 2 [(0, .ref h0), (1, .int a1)] := hl
  refine lv_iload_n hx hb dX12_field_0 rfl (lv_at hl 1 rfl) ?_
  refine lv_i2l (v := (a1 : Int32).toInt64) hx hb dX12_field_1 rfl ?_
  refine lv_lconst (v := 0) hx hb dX12_field_2 (by decide) ?_
  refine lv_ldc2 hx hb hown (hts (.constantLong RX12 150 (7)) (List.mem_of_getElem? (i := 1) rfl)) dX12_field_3 ?_
  have hP0 : va_P D vwCl [] s.heap := fun k q h => by simp at h
  refine vp_callSi (va_Run.run (va_runS (As := [.long ((a1 : Int32).toInt64), .long 0, .long 7]) (rest := []) ⟨hx, hb, hml, hown, hts⟩ (zd_X12_in l D cI cZ cP cF ((a1 : Int32).toInt64) 0 7  _ h) (va_cwS 3 hts zg_zd_X12_field_zd_X12_in_134 rfl rfl rfl (by decide +kernel) ⟨Nat.le_of_ble_eq_true rfl, Nat.le_of_ble_eq_true rfl⟩) ⟨zBR, fun U hU hW => ⟨rfl, by rw [hU]; exact hP0, hE.warm hW⟩⟩ rfl rfl hl.1 rfl (lv_room (Nat.le_of_ble_eq_true rfl)) dX12_field_6 ⟨Nat.le_of_ble_eq_true rfl, Nat.le_of_ble_eq_true rfl⟩)) (fun r1 h => ?_)
  refine lv_if_eq (tgt := 21) hx hb dX12_field_9 (by decide) (fun c_2 => ?_) (fun c_2 => ?_)
  · have h := h.1 c_2
    refine lv_ldc hx hb hown (hts (.constant RX12 177 (-2147483648)) (List.mem_of_getElem? (i := 6) rfl)) dX12_field_21 ?_
    exact W.iret (v := (-2147483648)) hx hb hr (fun t ht hW => ⟨_, rfl, h, ht⟩) (fun q h => by cases h) dX12_field_23
  · have h := h.2 c_2
    refine lv_aload_n hx hb dX12_field_12 rfl (lv_at hl 0 rfl) ?_
    refine va_get (D := D) (ci := 12) (v := .ref (q 12)) (C := RX12) (T := TX12) (N := 52) hx hb hts (fun _ h => List.mem_cons_of_mem _ (List.mem_append_right _ h)) hown hK hP 0 rfl rfl 12 (by decide) (hts (.fieldLink RX12 41 "TemplateForgeModel" "fields" "[I") (List.mem_of_getElem? (i := 7) rfl)) (fun _ h9 => h9) rfl dX12_field_13 ?_
    refine lv_iload_n hx hb dX12_field_16 rfl (lv_at hl 1 rfl) ?_
    have hin_3 := h.1
    have h := h.2
    refine va_iald hx hb hK hP 11 0 rfl rfl hin_3 dX12_field_17 ?_
    refine lv_goto (tgt := 23) hx hb dX12_field_18 (by decide) ?_
    exact W.iret (v := S 12 (a1 : Int32).toNatClampNeg) hx hb hr (fun t ht hW => ⟨_, rfl, h, ht⟩) (fun q h => by cases h) dX12_field_23
def wj_X12_takes_99 (S : MST) (x99_1 : Int32) (Post : Int32 → Prop) : Prop :=
  (((x99_1 : Int32) < 3) → (Post 1)) ∧ ((¬ ((x99_1 : Int32) < 3)) → (((8 < x99_1) → (Post 1)) ∧ ((¬ (8 < x99_1)) → (Post 2))))
def wp_X12_takes (S : MST) (a1 : Int32) (a2 : Int32) (Post : Int32 → Prop) : Prop :=
  ((a1 : Int32).toInt < 0 ∨ 17 < (a1 : Int32).toInt → (wj_X12_takes_99 S a1 Post)) ∧ (a1 = 0 → (Post 0)) ∧ (a1 = 1 → (Post 0)) ∧ (a1 = 2 → (wj_X12_takes_99 S a1 Post)) ∧ (a1 = 3 → (wj_X12_takes_99 S a1 Post)) ∧ (a1 = 4 → (wj_X12_takes_99 S a1 Post)) ∧ (a1 = 5 → (wj_X12_takes_99 S a1 Post)) ∧ (a1 = 6 → (wj_X12_takes_99 S a1 Post)) ∧ (a1 = 7 → (wj_X12_takes_99 S a1 Post)) ∧ (a1 = 8 → (wj_X12_takes_99 S a1 Post)) ∧ (a1 = 9 → (Post 0)) ∧ (a1 = 10 → (wj_X12_takes_99 S a1 Post)) ∧ (a1 = 11 → (vp_in a2 8 ∧ (Post (S 1 (a2 : Int32).toNatClampNeg)))) ∧ (a1 = 12 → (wj_X12_takes_99 S a1 Post)) ∧ (a1 = 13 → (Post 0)) ∧ (a1 = 14 → (wj_X12_takes_99 S a1 Post)) ∧ (a1 = 15 → (wj_X12_takes_99 S a1 Post)) ∧ (a1 = 16 → (wj_X12_takes_99 S a1 Post)) ∧ (a1 = 17 → (Post 2))
def zw_zd_X12_takes_w0 : List Cond := [.fieldLink RX12 7 "TemplateForgeModel" "args" "[I"]
def zw_zd_X12_takes : List Cond := .code yX12_takes cX12_takes 3 (some .int) :: ((zw_zd_X12_takes_w0) ++ wsX120)
set_option maxHeartbeats 16000000 in
set_option maxRecDepth 100000 in
theorem zd_X12_takes (l : Launch) (D : va_G) (cI cZ cP cF : Nat) (h0 : Nat) (q : Nat → Nat) (S : MST) (a1 : Int32) (a2 : Int32) (Post : Int32 → Prop) (h : wp_X12_takes S a1 a2 Post) : Met l yX12_takes zw_zd_X12_takes ({ frames := 0, cells := 0, slots := 0, locals := 0 }) (va_Pc [.ref h0, .int a1, .int a2] (fun U => va_P D vwCl (mW cI cZ h0 q S) U.heap ∧ zE D cI cZ cP cF U)) (vp_Si Post) 0 0 (fun _ => False) := by
  unfold wp_X12_takes at h
  refine Met.ofW (cc := cX12_takes) (maxL := 3) (ret := (some .int)) (by decide) rfl ?_
  intro p e s m args below meth c s₁ B hml hv
  obtain ⟨rfl, hP, hE⟩ := hv
  have hx := B.exec
  have hb := B.bytes
  have hr := B.returns
  have hts := atoms_spec (ws := zw_zd_X12_takes) B.pre
  have hown : s.vm.findClass RX12 = some m.cls := findClass_of_methodNamed B.named
  have hlocks := B.notSynchronized
  have hK := hE.k
  have hl := lv_entry ([.ref h0, .int a1, .int a2]) (n := 3) (Nat.le_of_ble_eq_true rfl)
  rw [lg_entry_eq]
  generalize (lg_sl ([.ref h0, .int a1, .int a2]) ++ List.replicate (3 - (lg_sl ([.ref h0, .int a1, .int a2])).length) Slot.unset).toArray = ls at hl ⊢
  have hl : lv_has ls 3 [(0, .ref h0), (1, .int a1), (2, .int a2)] := hl
  have J_99 : ∀ (x99_1 : Int32) (ls : Array Slot), wj_X12_takes_99 S x99_1 Post → lv_has ls 3 [(1, .int x99_1)] → W p l e (headSpec zw_zd_X12_takes ({ frames := 0, cells := 0, slots := 0, locals := 0 })).room s m ([.ref h0, .int a1, .int a2] : List Value).toArray below meth c s.heap [] 0 0 (MQ below (vp_Si Post) ([.ref h0, .int a1, .int a2] : List Value).toArray s 0 0 (fun _ => False)) (F0 m 99 ls []) := by
    intro x99_1 ls h hl
    unfold wj_X12_takes_99 at h
    refine lv_iload_n hx hb dX12_takes_99 rfl (lv_at hl 0 rfl) ?_
    refine lv_iconst (v := 3) hx hb dX12_takes_100 (by decide) ?_
    refine lv_icmp_lt (tgt := 114) hx hb dX12_takes_101 (by decide) (fun c_1 => ?_) (fun c_1 => ?_)
    · have h := h.1 c_1
      refine lv_iconst (v := 1) hx hb dX12_takes_114 (by decide) ?_
      exact W.iret (v := 1) hx hb hr (fun t ht hW => ⟨_, rfl, h, ht⟩) (fun q h => by cases h) dX12_takes_115
    · have h := h.2 c_1
      refine lv_iload_n hx hb dX12_takes_104 rfl (lv_at hl 0 rfl) ?_
      refine lv_bipush (v := 8) hx hb dX12_takes_105 (by decide) ?_
      refine lv_icmp_gt (tgt := 114) hx hb dX12_takes_107 (by decide) (fun c_2 => ?_) (fun c_2 => ?_)
      · have h := h.1 c_2
        refine lv_iconst (v := 1) hx hb dX12_takes_114 (by decide) ?_
        exact W.iret (v := 1) hx hb hr (fun t ht hW => ⟨_, rfl, h, ht⟩) (fun q h => by cases h) dX12_takes_115
      · have h := h.2 c_2
        refine lv_iconst (v := 2) hx hb dX12_takes_110 (by decide) ?_
        refine lv_goto (tgt := 115) hx hb dX12_takes_111 (by decide) ?_
        exact W.iret (v := 2) hx hb hr (fun t ht hW => ⟨_, rfl, h, ht⟩) (fun q h => by cases h) dX12_takes_115
  refine lv_iload_n hx hb dX12_takes_0 rfl (lv_at hl 1 rfl) ?_
  rcases zt_0_17 a1 with h_out | h_in | h_in | h_in | h_in | h_in | h_in | h_in | h_in | h_in | h_in | h_in | h_in | h_in | h_in | h_in | h_in | h_in | h_in
  · have h := h.1 h_out
    refine lv_tableOut (tgt := 99) hx hb dX12_takes_1 h_out (by decide) ?_
    exact J_99  a1 _ h (lv_sub hl [1] rfl)
  · have h := h.2.1 h_in
    refine lv_tableIn (off := 87) (tgt := 88) hx hb dX12_takes_1 (by rw [h_in]; decide) (by rw [h_in]; decide) (by rw [h_in]; decide) (by decide) ?_
    refine lv_iconst (v := 0) hx hb dX12_takes_88 (by decide) ?_
    exact W.iret (v := 0) hx hb hr (fun t ht hW => ⟨_, rfl, h, ht⟩) (fun q h => by cases h) dX12_takes_89
  · have h := h.2.2.1 h_in
    refine lv_tableIn (off := 87) (tgt := 88) hx hb dX12_takes_1 (by rw [h_in]; decide) (by rw [h_in]; decide) (by rw [h_in]; decide) (by decide) ?_
    refine lv_iconst (v := 0) hx hb dX12_takes_88 (by decide) ?_
    exact W.iret (v := 0) hx hb hr (fun t ht hW => ⟨_, rfl, h, ht⟩) (fun q h => by cases h) dX12_takes_89
  · have h := h.2.2.2.1 h_in
    refine lv_tableIn (off := 98) (tgt := 99) hx hb dX12_takes_1 (by rw [h_in]; decide) (by rw [h_in]; decide) (by rw [h_in]; decide) (by decide) ?_
    exact J_99  a1 _ h (lv_sub hl [1] rfl)
  · have h := h.2.2.2.2.1 h_in
    refine lv_tableIn (off := 98) (tgt := 99) hx hb dX12_takes_1 (by rw [h_in]; decide) (by rw [h_in]; decide) (by rw [h_in]; decide) (by decide) ?_
    exact J_99  a1 _ h (lv_sub hl [1] rfl)
  · have h := h.2.2.2.2.2.1 h_in
    refine lv_tableIn (off := 98) (tgt := 99) hx hb dX12_takes_1 (by rw [h_in]; decide) (by rw [h_in]; decide) (by rw [h_in]; decide) (by decide) ?_
    exact J_99  a1 _ h (lv_sub hl [1] rfl)
  · have h := h.2.2.2.2.2.2.1 h_in
    refine lv_tableIn (off := 98) (tgt := 99) hx hb dX12_takes_1 (by rw [h_in]; decide) (by rw [h_in]; decide) (by rw [h_in]; decide) (by decide) ?_
    exact J_99  a1 _ h (lv_sub hl [1] rfl)
  · have h := h.2.2.2.2.2.2.2.1 h_in
    refine lv_tableIn (off := 98) (tgt := 99) hx hb dX12_takes_1 (by rw [h_in]; decide) (by rw [h_in]; decide) (by rw [h_in]; decide) (by decide) ?_
    exact J_99  a1 _ h (lv_sub hl [1] rfl)
  · have h := h.2.2.2.2.2.2.2.2.1 h_in
    refine lv_tableIn (off := 98) (tgt := 99) hx hb dX12_takes_1 (by rw [h_in]; decide) (by rw [h_in]; decide) (by rw [h_in]; decide) (by decide) ?_
    exact J_99  a1 _ h (lv_sub hl [1] rfl)
  · have h := h.2.2.2.2.2.2.2.2.2.1 h_in
    refine lv_tableIn (off := 98) (tgt := 99) hx hb dX12_takes_1 (by rw [h_in]; decide) (by rw [h_in]; decide) (by rw [h_in]; decide) (by decide) ?_
    exact J_99  a1 _ h (lv_sub hl [1] rfl)
  · have h := h.2.2.2.2.2.2.2.2.2.2.1 h_in
    refine lv_tableIn (off := 87) (tgt := 88) hx hb dX12_takes_1 (by rw [h_in]; decide) (by rw [h_in]; decide) (by rw [h_in]; decide) (by decide) ?_
    refine lv_iconst (v := 0) hx hb dX12_takes_88 (by decide) ?_
    exact W.iret (v := 0) hx hb hr (fun t ht hW => ⟨_, rfl, h, ht⟩) (fun q h => by cases h) dX12_takes_89
  · have h := h.2.2.2.2.2.2.2.2.2.2.2.1 h_in
    refine lv_tableIn (off := 98) (tgt := 99) hx hb dX12_takes_1 (by rw [h_in]; decide) (by rw [h_in]; decide) (by rw [h_in]; decide) (by decide) ?_
    exact J_99  a1 _ h (lv_sub hl [1] rfl)
  · have h := h.2.2.2.2.2.2.2.2.2.2.2.2.1 h_in
    refine lv_tableIn (off := 89) (tgt := 90) hx hb dX12_takes_1 (by rw [h_in]; decide) (by rw [h_in]; decide) (by rw [h_in]; decide) (by decide) ?_
    refine lv_aload_n hx hb dX12_takes_90 rfl (lv_at hl 0 rfl) ?_
    refine va_get (D := D) (ci := 12) (v := .ref (q 1)) (C := RX12) (T := TX12) (N := 52) hx hb hts (fun _ h => List.mem_cons_of_mem _ (List.mem_append_right _ h)) hown hK hP 0 rfl rfl 1 (by decide) (hts (.fieldLink RX12 7 "TemplateForgeModel" "args" "[I") (List.mem_of_getElem? (i := 1) rfl)) (fun _ h9 => h9) rfl dX12_takes_91 ?_
    refine lv_iload_n hx hb dX12_takes_94 rfl (lv_at hl 2 rfl) ?_
    have hin_3 := h.1
    have h := h.2
    refine va_iald hx hb hK hP 1 0 rfl rfl hin_3 dX12_takes_95 ?_
    exact W.iret (v := S 1 (a2 : Int32).toNatClampNeg) hx hb hr (fun t ht hW => ⟨_, rfl, h, ht⟩) (fun q h => by cases h) dX12_takes_96
  · have h := h.2.2.2.2.2.2.2.2.2.2.2.2.2.1 h_in
    refine lv_tableIn (off := 98) (tgt := 99) hx hb dX12_takes_1 (by rw [h_in]; decide) (by rw [h_in]; decide) (by rw [h_in]; decide) (by decide) ?_
    exact J_99  a1 _ h (lv_sub hl [1] rfl)
  · have h := h.2.2.2.2.2.2.2.2.2.2.2.2.2.2.1 h_in
    refine lv_tableIn (off := 87) (tgt := 88) hx hb dX12_takes_1 (by rw [h_in]; decide) (by rw [h_in]; decide) (by rw [h_in]; decide) (by decide) ?_
    refine lv_iconst (v := 0) hx hb dX12_takes_88 (by decide) ?_
    exact W.iret (v := 0) hx hb hr (fun t ht hW => ⟨_, rfl, h, ht⟩) (fun q h => by cases h) dX12_takes_89
  · have h := h.2.2.2.2.2.2.2.2.2.2.2.2.2.2.2.1 h_in
    refine lv_tableIn (off := 98) (tgt := 99) hx hb dX12_takes_1 (by rw [h_in]; decide) (by rw [h_in]; decide) (by rw [h_in]; decide) (by decide) ?_
    exact J_99  a1 _ h (lv_sub hl [1] rfl)
  · have h := h.2.2.2.2.2.2.2.2.2.2.2.2.2.2.2.2.1 h_in
    refine lv_tableIn (off := 98) (tgt := 99) hx hb dX12_takes_1 (by rw [h_in]; decide) (by rw [h_in]; decide) (by rw [h_in]; decide) (by decide) ?_
    exact J_99  a1 _ h (lv_sub hl [1] rfl)
  · have h := h.2.2.2.2.2.2.2.2.2.2.2.2.2.2.2.2.2.1 h_in
    refine lv_tableIn (off := 98) (tgt := 99) hx hb dX12_takes_1 (by rw [h_in]; decide) (by rw [h_in]; decide) (by rw [h_in]; decide) (by decide) ?_
    exact J_99  a1 _ h (lv_sub hl [1] rfl)
  · have h := h.2.2.2.2.2.2.2.2.2.2.2.2.2.2.2.2.2.2 h_in
    refine lv_tableIn (off := 96) (tgt := 97) hx hb dX12_takes_1 (by rw [h_in]; decide) (by rw [h_in]; decide) (by rw [h_in]; decide) (by decide) ?_
    refine lv_iconst (v := 2) hx hb dX12_takes_97 (by decide) ?_
    exact W.iret (v := 2) hx hb hr (fun t ht hW => ⟨_, rfl, h, ht⟩) (fun q h => by cases h) dX12_takes_98
def wp_X12_lays (a0 : Int32) (Post : Int32 → Prop) : Prop :=
  ((a0 : Int32).toInt < 2 ∨ 19 < (a0 : Int32).toInt → (Post 1)) ∧ (a0 = 2 → (Post 0)) ∧ (a0 = 3 → (Post 1)) ∧ (a0 = 4 → (Post 1)) ∧ (a0 = 5 → (Post 1)) ∧ (a0 = 6 → (Post 1)) ∧ (a0 = 7 → (Post 1)) ∧ (a0 = 8 → (Post 1)) ∧ (a0 = 9 → (Post 0)) ∧ (a0 = 10 → (Post 0)) ∧ (a0 = 11 → (Post 1)) ∧ (a0 = 12 → (Post 0)) ∧ (a0 = 13 → (Post 1)) ∧ (a0 = 14 → (Post 0)) ∧ (a0 = 15 → (Post 0)) ∧ (a0 = 16 → (Post 1)) ∧ (a0 = 17 → (Post 0)) ∧ (a0 = 18 → (Post 2)) ∧ (a0 = 19 → (Post 0))
def zw_zd_X12_lays : List Cond := .code yX12_lays cX12_lays 1 (some .int) :: ((([] : List Cond)))
set_option maxHeartbeats 16000000 in
set_option maxRecDepth 100000 in
theorem zd_X12_lays (l : Launch) (D : va_G) (cI cZ cP cF : Nat) (a0 : Int32) (Post : Int32 → Prop) (h : wp_X12_lays a0 Post) : Met l yX12_lays zw_zd_X12_lays ({ frames := 0, cells := 0, slots := 0, locals := 0 }) (va_Pc [.int a0] (fun U => va_P D vwCl [] U.heap ∧ zE D cI cZ cP cF U)) (vp_Si Post) 0 0 (fun _ => False) := by
  unfold wp_X12_lays at h
  refine Met.ofW (cc := cX12_lays) (maxL := 1) (ret := (some .int)) (by decide) rfl ?_
  intro p e s m args below meth c s₁ B hml hv
  obtain ⟨rfl, hP, hE⟩ := hv
  have hx := B.exec
  have hb := B.bytes
  have hr := B.returns
  have hts := atoms_spec (ws := zw_zd_X12_lays) B.pre
  have hown : s.vm.findClass RX12 = some m.cls := findClass_of_methodNamed B.named
  have hlocks := B.notSynchronized
  have hK := hE.k
  have hl := lv_entry ([.int a0]) (n := 1) (Nat.le_of_ble_eq_true rfl)
  rw [lg_entry_eq]
  generalize (lg_sl ([.int a0]) ++ List.replicate (1 - (lg_sl ([.int a0])).length) Slot.unset).toArray = ls at hl ⊢
  have hl : lv_has ls 1 [(0, .int a0)] := hl
  refine lv_iload_n hx hb dX12_lays_0 rfl (lv_at hl 0 rfl) ?_
  rcases zt_2_19 a0 with h_out | h_in | h_in | h_in | h_in | h_in | h_in | h_in | h_in | h_in | h_in | h_in | h_in | h_in | h_in | h_in | h_in | h_in | h_in
  · have h := h.1 h_out
    refine lv_tableOut (tgt := 92) hx hb dX12_lays_1 h_out (by decide) ?_
    refine lv_iconst (v := 1) hx hb dX12_lays_92 (by decide) ?_
    exact W.iret (v := 1) hx hb hr (fun t ht hW => ⟨_, rfl, h, ht⟩) (fun q h => by cases h) dX12_lays_93
  · have h := h.2.1 h_in
    refine lv_tableIn (off := 87) (tgt := 88) hx hb dX12_lays_1 (by rw [h_in]; decide) (by rw [h_in]; decide) (by rw [h_in]; decide) (by decide) ?_
    refine lv_iconst (v := 0) hx hb dX12_lays_88 (by decide) ?_
    exact W.iret (v := 0) hx hb hr (fun t ht hW => ⟨_, rfl, h, ht⟩) (fun q h => by cases h) dX12_lays_89
  · have h := h.2.2.1 h_in
    refine lv_tableIn (off := 91) (tgt := 92) hx hb dX12_lays_1 (by rw [h_in]; decide) (by rw [h_in]; decide) (by rw [h_in]; decide) (by decide) ?_
    refine lv_iconst (v := 1) hx hb dX12_lays_92 (by decide) ?_
    exact W.iret (v := 1) hx hb hr (fun t ht hW => ⟨_, rfl, h, ht⟩) (fun q h => by cases h) dX12_lays_93
  · have h := h.2.2.2.1 h_in
    refine lv_tableIn (off := 91) (tgt := 92) hx hb dX12_lays_1 (by rw [h_in]; decide) (by rw [h_in]; decide) (by rw [h_in]; decide) (by decide) ?_
    refine lv_iconst (v := 1) hx hb dX12_lays_92 (by decide) ?_
    exact W.iret (v := 1) hx hb hr (fun t ht hW => ⟨_, rfl, h, ht⟩) (fun q h => by cases h) dX12_lays_93
  · have h := h.2.2.2.2.1 h_in
    refine lv_tableIn (off := 91) (tgt := 92) hx hb dX12_lays_1 (by rw [h_in]; decide) (by rw [h_in]; decide) (by rw [h_in]; decide) (by decide) ?_
    refine lv_iconst (v := 1) hx hb dX12_lays_92 (by decide) ?_
    exact W.iret (v := 1) hx hb hr (fun t ht hW => ⟨_, rfl, h, ht⟩) (fun q h => by cases h) dX12_lays_93
  · have h := h.2.2.2.2.2.1 h_in
    refine lv_tableIn (off := 91) (tgt := 92) hx hb dX12_lays_1 (by rw [h_in]; decide) (by rw [h_in]; decide) (by rw [h_in]; decide) (by decide) ?_
    refine lv_iconst (v := 1) hx hb dX12_lays_92 (by decide) ?_
    exact W.iret (v := 1) hx hb hr (fun t ht hW => ⟨_, rfl, h, ht⟩) (fun q h => by cases h) dX12_lays_93
  · have h := h.2.2.2.2.2.2.1 h_in
    refine lv_tableIn (off := 91) (tgt := 92) hx hb dX12_lays_1 (by rw [h_in]; decide) (by rw [h_in]; decide) (by rw [h_in]; decide) (by decide) ?_
    refine lv_iconst (v := 1) hx hb dX12_lays_92 (by decide) ?_
    exact W.iret (v := 1) hx hb hr (fun t ht hW => ⟨_, rfl, h, ht⟩) (fun q h => by cases h) dX12_lays_93
  · have h := h.2.2.2.2.2.2.2.1 h_in
    refine lv_tableIn (off := 91) (tgt := 92) hx hb dX12_lays_1 (by rw [h_in]; decide) (by rw [h_in]; decide) (by rw [h_in]; decide) (by decide) ?_
    refine lv_iconst (v := 1) hx hb dX12_lays_92 (by decide) ?_
    exact W.iret (v := 1) hx hb hr (fun t ht hW => ⟨_, rfl, h, ht⟩) (fun q h => by cases h) dX12_lays_93
  · have h := h.2.2.2.2.2.2.2.2.1 h_in
    refine lv_tableIn (off := 87) (tgt := 88) hx hb dX12_lays_1 (by rw [h_in]; decide) (by rw [h_in]; decide) (by rw [h_in]; decide) (by decide) ?_
    refine lv_iconst (v := 0) hx hb dX12_lays_88 (by decide) ?_
    exact W.iret (v := 0) hx hb hr (fun t ht hW => ⟨_, rfl, h, ht⟩) (fun q h => by cases h) dX12_lays_89
  · have h := h.2.2.2.2.2.2.2.2.2.1 h_in
    refine lv_tableIn (off := 87) (tgt := 88) hx hb dX12_lays_1 (by rw [h_in]; decide) (by rw [h_in]; decide) (by rw [h_in]; decide) (by decide) ?_
    refine lv_iconst (v := 0) hx hb dX12_lays_88 (by decide) ?_
    exact W.iret (v := 0) hx hb hr (fun t ht hW => ⟨_, rfl, h, ht⟩) (fun q h => by cases h) dX12_lays_89
  · have h := h.2.2.2.2.2.2.2.2.2.2.1 h_in
    refine lv_tableIn (off := 91) (tgt := 92) hx hb dX12_lays_1 (by rw [h_in]; decide) (by rw [h_in]; decide) (by rw [h_in]; decide) (by decide) ?_
    refine lv_iconst (v := 1) hx hb dX12_lays_92 (by decide) ?_
    exact W.iret (v := 1) hx hb hr (fun t ht hW => ⟨_, rfl, h, ht⟩) (fun q h => by cases h) dX12_lays_93
  · have h := h.2.2.2.2.2.2.2.2.2.2.2.1 h_in
    refine lv_tableIn (off := 87) (tgt := 88) hx hb dX12_lays_1 (by rw [h_in]; decide) (by rw [h_in]; decide) (by rw [h_in]; decide) (by decide) ?_
    refine lv_iconst (v := 0) hx hb dX12_lays_88 (by decide) ?_
    exact W.iret (v := 0) hx hb hr (fun t ht hW => ⟨_, rfl, h, ht⟩) (fun q h => by cases h) dX12_lays_89
  · have h := h.2.2.2.2.2.2.2.2.2.2.2.2.1 h_in
    refine lv_tableIn (off := 91) (tgt := 92) hx hb dX12_lays_1 (by rw [h_in]; decide) (by rw [h_in]; decide) (by rw [h_in]; decide) (by decide) ?_
    refine lv_iconst (v := 1) hx hb dX12_lays_92 (by decide) ?_
    exact W.iret (v := 1) hx hb hr (fun t ht hW => ⟨_, rfl, h, ht⟩) (fun q h => by cases h) dX12_lays_93
  · have h := h.2.2.2.2.2.2.2.2.2.2.2.2.2.1 h_in
    refine lv_tableIn (off := 87) (tgt := 88) hx hb dX12_lays_1 (by rw [h_in]; decide) (by rw [h_in]; decide) (by rw [h_in]; decide) (by decide) ?_
    refine lv_iconst (v := 0) hx hb dX12_lays_88 (by decide) ?_
    exact W.iret (v := 0) hx hb hr (fun t ht hW => ⟨_, rfl, h, ht⟩) (fun q h => by cases h) dX12_lays_89
  · have h := h.2.2.2.2.2.2.2.2.2.2.2.2.2.2.1 h_in
    refine lv_tableIn (off := 87) (tgt := 88) hx hb dX12_lays_1 (by rw [h_in]; decide) (by rw [h_in]; decide) (by rw [h_in]; decide) (by decide) ?_
    refine lv_iconst (v := 0) hx hb dX12_lays_88 (by decide) ?_
    exact W.iret (v := 0) hx hb hr (fun t ht hW => ⟨_, rfl, h, ht⟩) (fun q h => by cases h) dX12_lays_89
  · have h := h.2.2.2.2.2.2.2.2.2.2.2.2.2.2.2.1 h_in
    refine lv_tableIn (off := 91) (tgt := 92) hx hb dX12_lays_1 (by rw [h_in]; decide) (by rw [h_in]; decide) (by rw [h_in]; decide) (by decide) ?_
    refine lv_iconst (v := 1) hx hb dX12_lays_92 (by decide) ?_
    exact W.iret (v := 1) hx hb hr (fun t ht hW => ⟨_, rfl, h, ht⟩) (fun q h => by cases h) dX12_lays_93
  · have h := h.2.2.2.2.2.2.2.2.2.2.2.2.2.2.2.2.1 h_in
    refine lv_tableIn (off := 87) (tgt := 88) hx hb dX12_lays_1 (by rw [h_in]; decide) (by rw [h_in]; decide) (by rw [h_in]; decide) (by decide) ?_
    refine lv_iconst (v := 0) hx hb dX12_lays_88 (by decide) ?_
    exact W.iret (v := 0) hx hb hr (fun t ht hW => ⟨_, rfl, h, ht⟩) (fun q h => by cases h) dX12_lays_89
  · have h := h.2.2.2.2.2.2.2.2.2.2.2.2.2.2.2.2.2.1 h_in
    refine lv_tableIn (off := 89) (tgt := 90) hx hb dX12_lays_1 (by rw [h_in]; decide) (by rw [h_in]; decide) (by rw [h_in]; decide) (by decide) ?_
    refine lv_iconst (v := 2) hx hb dX12_lays_90 (by decide) ?_
    exact W.iret (v := 2) hx hb hr (fun t ht hW => ⟨_, rfl, h, ht⟩) (fun q h => by cases h) dX12_lays_91
  · have h := h.2.2.2.2.2.2.2.2.2.2.2.2.2.2.2.2.2.2 h_in
    refine lv_tableIn (off := 87) (tgt := 88) hx hb dX12_lays_1 (by rw [h_in]; decide) (by rw [h_in]; decide) (by rw [h_in]; decide) (by decide) ?_
    refine lv_iconst (v := 0) hx hb dX12_lays_88 (by decide) ?_
    exact W.iret (v := 0) hx hb hr (fun t ht hW => ⟨_, rfl, h, ht⟩) (fun q h => by cases h) dX12_lays_89
