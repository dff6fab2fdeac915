def wp_X12_isOperand (S : MST) (a1 : Int32) (a2 : Int32) (a3 : Int32) (Post : Int32 → Prop) : Prop :=
  ((a2 : Int32).toInt < 1 ∨ 17 < (a2 : Int32).toInt → (Post 1)) ∧ (a2 = 1 → (vp_in a1 8 ∧ (wp_X12_in ((a3 : Int32).toInt64) 0 (((S 2 (a1 : Int32).toNatClampNeg) - 1 : Int32).toInt64) (fun r2 => (r2 = 0 ∨ r2 = 1) ∧ Post r2)))) ∧ (a2 = 2 → (vp_in a1 8 ∧ (wp_X12_in ((a3 : Int32).toInt64) 0 (((S 2 (a1 : Int32).toNatClampNeg) - 1 : Int32).toInt64) (fun r4 => (r4 = 0 ∨ r4 = 1) ∧ Post r4)))) ∧ (a2 = 3 → (Post 1)) ∧ (a2 = 4 → (Post 1)) ∧ (a2 = 5 → (Post 1)) ∧ (a2 = 6 → (Post 1)) ∧ (a2 = 7 → (Post 1)) ∧ (a2 = 8 → (Post 1)) ∧ (a2 = 9 → (Post 1)) ∧ (a2 = 10 → (Post 1)) ∧ (a2 = 11 → (wp_X12_isMethod S a3 (fun r5 => (r5 = 0 ∨ r5 = 1) ∧ Post r5))) ∧ (a2 = 12 → (Post 1)) ∧ (a2 = 13 → (wp_X12_in ((a3 : Int32).toInt64) 0 7 (fun r6 => (r6 = 0 ∨ r6 = 1) ∧ Post r6))) ∧ (a2 = 14 → (wp_X12_in ((a3 : Int32).toInt64) 0 7 (fun r7 => (r7 = 0 ∨ r7 = 1) ∧ Post r7))) ∧ (a2 = 15 → (wp_X12_in ((a3 : Int32).toInt64) 0 3 (fun r8 => (r8 = 0 ∨ r8 = 1) ∧ Post r8))) ∧ (a2 = 16 → (wp_X12_in ((a3 : Int32).toInt64) 0 3 (fun r9 => (r9 = 0 ∨ r9 = 1) ∧ Post r9))) ∧ (a2 = 17 → (wp_X12_in ((a3 : Int32).toInt64) 0 3 (fun r10 => (r10 = 0 ∨ r10 = 1) ∧ Post r10)))
def zw_zd_X12_isOperand_w0 : List Cond := [.fieldLink RX12 13 "TemplateForgeModel" "locals" "[I", .code yX12_in cX12_in 6 (some .boolean), .methodLink RX12 134 yX12_in, .static yX12_in, .initialized RX12, .code yX12_isMethod cX12_isMethod 2 (some .boolean), .fieldLink RX12 140 "TemplateForgeModel" "methods" "I", .methodLink RX12 144 yX12_isMethod, .instanceMethod yX12_isMethod, .selects RX12 yX12_isMethod yX12_isMethod, .constantLong RX12 150 (7), .constantLong RX12 132 (3)]
def zw_zd_X12_isOperand : List Cond := .code yX12_isOperand cX12_isOperand 4 (some .boolean) :: ((zw_zd_X12_isOperand_w0) ++ wsX120)
set_option maxRecDepth 100000 in
theorem zg_zd_X12_isOperand_zd_X12_in_134_a : GoodIn zw_zd_X12_isOperand [.methodLink RX12 134 yX12_in, .static yX12_in, .initialized RX12] := goodIn_r _ [3, 4, 5] rfl (by decide +kernel)
set_option maxRecDepth 100000 in
theorem zg_zd_X12_isOperand_zd_X12_in_134_c : GoodIn zw_zd_X12_isOperand [.code yX12_in cX12_in 6 (some .boolean)] := goodIn_r _ [2] rfl (by decide +kernel)
theorem zg_zd_X12_isOperand_zd_X12_in_134 : GoodIn zw_zd_X12_isOperand (va_wsS RX12 134 yX12_in zw_zd_X12_in) := goodIn_app zg_zd_X12_isOperand_zd_X12_in_134_a (show GoodIn zw_zd_X12_isOperand (.code yX12_in cX12_in 6 (some .boolean) :: (([] : List Cond))) from zg_zd_X12_isOperand_zd_X12_in_134_c)
set_option maxRecDepth 100000 in
theorem zg_zd_X12_isOperand_zd_X12_isMethod_144_a : GoodIn zw_zd_X12_isOperand [.methodLink RX12 144 yX12_isMethod, .instanceMethod yX12_isMethod, .selects RX12 yX12_isMethod yX12_isMethod, .initialized RX12] := goodIn_r _ [8, 9, 10, 5] rfl (by decide +kernel)
set_option maxRecDepth 100000 in
theorem zg_zd_X12_isOperand_zd_X12_isMethod_144_c : GoodIn zw_zd_X12_isOperand [.code yX12_isMethod cX12_isMethod 2 (some .boolean)] := goodIn_r _ [6] rfl (by decide +kernel)
set_option maxRecDepth 100000 in
theorem zg_zd_X12_isOperand_zd_X12_isMethod_144_0 : GoodIn zw_zd_X12_isOperand zw_zd_X12_isMethod_w0 := goodIn_r _ [7, 2, 3, 4, 5] rfl (by decide +kernel)
theorem zg_zd_X12_isOperand_zd_X12_isMethod_144 : GoodIn zw_zd_X12_isOperand (wsV RX12 144 RX12 yX12_isMethod zw_zd_X12_isMethod) := goodIn_app zg_zd_X12_isOperand_zd_X12_isMethod_144_a (goodIn_ca (a := (zw_zd_X12_isMethod_w0)) (show GoodIn zw_zd_X12_isOperand (.code yX12_isMethod cX12_isMethod 2 (some .boolean) :: (zw_zd_X12_isMethod_w0)) from goodIn_app zg_zd_X12_isOperand_zd_X12_isMethod_144_c (zg_zd_X12_isOperand_zd_X12_isMethod_144_0)) (fun w h => ⟨(fun _ h => List.mem_cons_of_mem _ (List.mem_append_right _ h)) w h, good_of_word (List.all_eq_true.mp zgw_X12 w h)⟩))
set_option maxHeartbeats 16000000 in
set_option maxRecDepth 100000 in
theorem zd_X12_isOperand (l : Launch) (D : va_G) (cI cZ cP cF : Nat) (h0 : Nat) (q : Nat → Nat) (S : MST) (a1 : Int32) (a2 : Int32) (a3 : Int32) (Post : Int32 → Prop) (h : wp_X12_isOperand S a1 a2 a3 Post) : Met l yX12_isOperand zw_zd_X12_isOperand ({ frames := 2, cells := 0, slots := 0, locals := 46 }) (va_Pc [.ref h0, .int a1, .int a2, .int a3] (fun U => va_P D vwCl (mW cI cZ h0 q S) U.heap ∧ zE D cI cZ cP cF U)) (vp_Si Post) 0 0 (fun _ => False) := by
  unfold wp_X12_isOperand at h
  refine Met.ofW (cc := cX12_isOperand) (maxL := 4) (ret := (some .boolean)) (by decide) rfl ?_
  intro p e s m args below meth c s₁ B hml hv
  obtain ⟨rfl, hP, hE⟩ := hv
  have hx := B.exec
  have hb := B.bytes
  have hr := B.returns
  have hts := atoms_spec (ws := zw_zd_X12_isOperand) B.pre
  have hown : s.vm.findClass RX12 = some m.cls := findClass_of_methodNamed B.named
  have hlocks := B.notSynchronized
  have hK := hE.k
  have hl := lv_entry ([.ref h0, .int a1, .int a2, .int a3]) (n := 4) (Nat.le_of_ble_eq_true rfl)
  rw [lg_entry_eq]
  generalize (lg_sl ([.ref h0, .int a1, .int a2, .int a3]) ++ List.replicate (4 - (lg_sl ([.ref h0, .int a1, .int a2, .int a3])).length) Slot.unset).toArray = ls at hl ⊢
  have hl : lv_has ls 4 [(0, .ref h0), (1, .int a1), (2, .int a2), (3, .int a3)] := hl
  refine lv_iload_n hx hb dX12_isOperand_0 rfl (lv_at hl 2 rfl) ?_
  rcases zt_1_17 a2 with h_out | h_in | h_in | h_in | h_in | h_in | h_in | h_in | h_in | h_in | h_in | h_in | h_in | h_in | h_in | h_in | h_in | h_in
  · have h := h.1 h_out
    refine lv_tableOut (tgt := 126) hx hb dX12_isOperand_1 h_out (by decide) ?_
    refine lv_iconst (v := 1) hx hb dX12_isOperand_126 (by decide) ?_
    exact W.zret (v := 1) (ty := .boolean) hx hb hr (by decide) (fun t ht hW => ⟨_, rfl, h, ht⟩) (fun q h => by cases h) dX12_isOperand_127
  · have h := h.2.1 h_in
    refine lv_tableIn (off := 83) (tgt := 84) hx hb dX12_isOperand_1 (by rw [h_in]; decide) (by rw [h_in]; decide) (by rw [h_in]; decide) (by decide) ?_
    refine lv_iload_n hx hb dX12_isOperand_84 rfl (lv_at hl 3 rfl) ?_
    refine lv_i2l (v := (a3 : Int32).toInt64) hx hb dX12_isOperand_85 rfl ?_
    refine lv_lconst (v := 0) hx hb dX12_isOperand_86 (by decide) ?_
    refine lv_aload_n hx hb dX12_isOperand_87 rfl (lv_at hl 0 rfl) ?_
    refine va_get (D := D) (ci := 12) (v := .ref (q 2)) (C := RX12) (T := TX12) (N := 52) hx hb hts (fun _ h => List.mem_cons_of_mem _ (List.mem_append_right _ h)) hown hK hP 0 rfl rfl 2 (by decide) (hts (.fieldLink RX12 13 "TemplateForgeModel" "locals" "[I") (List.mem_of_getElem? (i := 1) rfl)) (fun _ h9 => h9) rfl dX12_isOperand_88 ?_
    refine lv_iload_n hx hb dX12_isOperand_91 rfl (lv_at hl 1 rfl) ?_
    have hin_1 := h.1
    have h := h.2
    refine va_iald hx hb hK hP 2 0 rfl rfl hin_1 dX12_isOperand_92 ?_
    refine lv_iconst (v := 1) hx hb dX12_isOperand_93 (by decide) ?_
    refine lv_isub hx hb dX12_isOperand_94 ?_
    refine lv_i2l (v := ((S 2 (a1 : Int32).toNatClampNeg) - 1 : Int32).toInt64) hx hb dX12_isOperand_95 rfl ?_
    have hP0 : va_P D vwCl [] s.heap := fun k q h => by simp at h
    refine vp_callSi (va_Run.run (va_runS (As := [.long ((a3 : Int32).toInt64), .long 0, .long (((S 2 (a1 : Int32).toNatClampNeg) - 1 : Int32).toInt64)]) (rest := []) ⟨hx, hb, hml, hown, hts⟩ (zd_X12_in l D cI cZ cP cF ((a3 : Int32).toInt64) 0 (((S 2 (a1 : Int32).toNatClampNeg) - 1 : Int32).toInt64)  _ h) (va_cwS 3 hts zg_zd_X12_isOperand_zd_X12_in_134 rfl rfl rfl (by decide +kernel) ⟨Nat.le_of_ble_eq_true rfl, Nat.le_of_ble_eq_true rfl⟩) ⟨zBR, fun U hU hW => ⟨rfl, by rw [hU]; exact hP0, hE.warm hW⟩⟩ rfl rfl hl.1 rfl (lv_room (Nat.le_of_ble_eq_true rfl)) dX12_isOperand_96 ⟨Nat.le_of_ble_eq_true rfl, Nat.le_of_ble_eq_true rfl⟩)) (fun r2 h => ?_)
    have hz : narrow .boolean (.int r2) = .int r2 := by rcases h.1 with q | q <;> rw [q] <;> rfl
    have h := h.2
    exact W.zret (v := r2) (ty := .boolean) hx hb hr (hz) (fun t ht hW => ⟨_, rfl, h, ht⟩) (fun q h => by cases h) dX12_isOperand_99
  · have h := h.2.2.1 h_in
    refine lv_tableIn (off := 83) (tgt := 84) hx hb dX12_isOperand_1 (by rw [h_in]; decide) (by rw [h_in]; decide) (by rw [h_in]; decide) (by decide) ?_
    refine lv_iload_n hx hb dX12_isOperand_84 rfl (lv_at hl 3 rfl) ?_
    refine lv_i2l (v := (a3 : Int32).toInt64) hx hb dX12_isOperand_85 rfl ?_
    refine lv_lconst (v := 0) hx hb dX12_isOperand_86 (by decide) ?_
    refine lv_aload_n hx hb dX12_isOperand_87 rfl (lv_at hl 0 rfl) ?_
    refine va_get (D := D) (ci := 12) (v := .ref (q 2)) (C := RX12) (T := TX12) (N := 52) hx hb hts (fun _ h => List.mem_cons_of_mem _ (List.mem_append_right _ h)) hown hK hP 0 rfl rfl 2 (by decide) (hts (.fieldLink RX12 13 "TemplateForgeModel" "locals" "[I") (List.mem_of_getElem? (i := 1) rfl)) (fun _ h9 => h9) rfl dX12_isOperand_88 ?_
    refine lv_iload_n hx hb dX12_isOperand_91 rfl (lv_at hl 1 rfl) ?_
    have hin_3 := h.1
    have h := h.2
    refine va_iald hx hb hK hP 2 0 rfl rfl hin_3 dX12_isOperand_92 ?_
    refine lv_iconst (v := 1) hx hb dX12_isOperand_93 (by decide) ?_
    refine lv_isub hx hb dX12_isOperand_94 ?_
    refine lv_i2l (v := ((S 2 (a1 : Int32).toNatClampNeg) - 1 : Int32).toInt64) hx hb dX12_isOperand_95 rfl ?_
    have hP0 : va_P D vwCl [] s.heap := fun k q h => by simp at h
    refine vp_callSi (va_Run.run (va_runS (As := [.long ((a3 : Int32).toInt64), .long 0, .long (((S 2 (a1 : Int32).toNatClampNeg) - 1 : Int32).toInt64)]) (rest := []) ⟨hx, hb, hml, hown, hts⟩ (zd_X12_in l D cI cZ cP cF ((a3 : Int32).toInt64) 0 (((S 2 (a1 : Int32).toNatClampNeg) - 1 : Int32).toInt64)  _ h) (va_cwS 3 hts zg_zd_X12_isOperand_zd_X12_in_134 rfl rfl rfl (by decide +kernel) ⟨Nat.le_of_ble_eq_true rfl, Nat.le_of_ble_eq_true rfl⟩) ⟨zBR, fun U hU hW => ⟨rfl, by rw [hU]; exact hP0, hE.warm hW⟩⟩ rfl rfl hl.1 rfl (lv_room (Nat.le_of_ble_eq_true rfl)) dX12_isOperand_96 ⟨Nat.le_of_ble_eq_true rfl, Nat.le_of_ble_eq_true rfl⟩)) (fun r4 h => ?_)
    have hz : narrow .boolean (.int r4) = .int r4 := by rcases h.1 with q | q <;> rw [q] <;> rfl
    have h := h.2
    exact W.zret (v := r4) (ty := .boolean) hx hb hr (hz) (fun t ht hW => ⟨_, rfl, h, ht⟩) (fun q h => by cases h) dX12_isOperand_99
  · have h := h.2.2.2.1 h_in
    refine lv_tableIn (off := 125) (tgt := 126) hx hb dX12_isOperand_1 (by rw [h_in]; decide) (by rw [h_in]; decide) (by rw [h_in]; decide) (by decide) ?_
    refine lv_iconst (v := 1) hx hb dX12_isOperand_126 (by decide) ?_
    exact W.zret (v := 1) (ty := .boolean) hx hb hr (by decide) (fun t ht hW => ⟨_, rfl, h, ht⟩) (fun q h => by cases h) dX12_isOperand_127
  · have h := h.2.2.2.2.1 h_in
    refine lv_tableIn (off := 125) (tgt := 126) hx hb dX12_isOperand_1 (by rw [h_in]; decide) (by rw [h_in]; decide) (by rw [h_in]; decide) (by decide) ?_
    refine lv_iconst (v := 1) hx hb dX12_isOperand_126 (by decide) ?_
    exact W.zret (v := 1) (ty := .boolean) hx hb hr (by decide) (fun t ht hW => ⟨_, rfl, h, ht⟩) (fun q h => by cases h) dX12_isOperand_127
  · have h := h.2.2.2.2.2.1 h_in
    refine lv_tableIn (off := 125) (tgt := 126) hx hb dX12_isOperand_1 (by rw [h_in]; decide) (by rw [h_in]; decide) (by rw [h_in]; decide) (by decide) ?_
    refine lv_iconst (v := 1) hx hb dX12_isOperand_126 (by decide) ?_
    exact W.zret (v := 1) (ty := .boolean) hx hb hr (by decide) (fun t ht hW => ⟨_, rfl, h, ht⟩) (fun q h => by cases h) dX12_isOperand_127
  · have h := h.2.2.2.2.2.2.1 h_in
    refine lv_tableIn (off := 125) (tgt := 126) hx hb dX12_isOperand_1 (by rw [h_in]; decide) (by rw [h_in]; decide) (by rw [h_in]; decide) (by decide) ?_
    refine lv_iconst (v := 1) hx hb dX12_isOperand_126 (by decide) ?_
    exact W.zret (v := 1) (ty := .boolean) hx hb hr (by decide) (fun t ht hW => ⟨_, rfl, h, ht⟩) (fun q h => by cases h) dX12_isOperand_127
  · have h := h.2.2.2.2.2.2.2.1 h_in
    refine lv_tableIn (off := 125) (tgt := 126) hx hb dX12_isOperand_1 (by rw [h_in]; decide) (by rw [h_in]; decide) (by rw [h_in]; decide) (by decide) ?_
    refine lv_iconst (v := 1) hx hb dX12_isOperand_126 (by decide) ?_
    exact W.zret (v := 1) (ty := .boolean) hx hb hr (by decide) (fun t ht hW => ⟨_, rfl, h, ht⟩) (fun q h => by cases h) dX12_isOperand_127
  · have h := h.2.2.2.2.2.2.2.2.1 h_in
    refine lv_tableIn (off := 125) (tgt := 126) hx hb dX12_isOperand_1 (by rw [h_in]; decide) (by rw [h_in]; decide) (by rw [h_in]; decide) (by decide) ?_
    refine lv_iconst (v := 1) hx hb dX12_isOperand_126 (by decide) ?_
    exact W.zret (v := 1) (ty := .boolean) hx hb hr (by decide) (fun t ht hW => ⟨_, rfl, h, ht⟩) (fun q h => by cases h) dX12_isOperand_127
  · have h := h.2.2.2.2.2.2.2.2.2.1 h_in
    refine lv_tableIn (off := 125) (tgt := 126) hx hb dX12_isOperand_1 (by rw [h_in]; decide) (by rw [h_in]; decide) (by rw [h_in]; decide) (by decide) ?_
    refine lv_iconst (v := 1) hx hb dX12_isOperand_126 (by decide) ?_
    exact W.zret (v := 1) (ty := .boolean) hx hb hr (by decide) (fun t ht hW => ⟨_, rfl, h, ht⟩) (fun q h => by cases h) dX12_isOperand_127
  · have h := h.2.2.2.2.2.2.2.2.2.2.1 h_in
    refine lv_tableIn (off := 125) (tgt := 126) hx hb dX12_isOperand_1 (by rw [h_in]; decide) (by rw [h_in]; decide) (by rw [h_in]; decide) (by decide) ?_
    refine lv_iconst (v := 1) hx hb dX12_isOperand_126 (by decide) ?_
    exact W.zret (v := 1) (ty := .boolean) hx hb hr (by decide) (fun t ht hW => ⟨_, rfl, h, ht⟩) (fun q h => by cases h) dX12_isOperand_127
  · have h := h.2.2.2.2.2.2.2.2.2.2.2.1 h_in
    refine lv_tableIn (off := 99) (tgt := 100) hx hb dX12_isOperand_1 (by rw [h_in]; decide) (by rw [h_in]; decide) (by rw [h_in]; decide) (by decide) ?_
    refine lv_aload_n hx hb dX12_isOperand_100 rfl (lv_at hl 0 rfl) ?_
    refine lv_iload_n hx hb dX12_isOperand_101 rfl (lv_at hl 3 rfl) ?_
    refine vp_callSi (va_Run.run (va_runV (As := [.int a3]) (rest := []) ⟨hx, hb, hml, hown, hts⟩ (zd_X12_isMethod l D cI cZ cP cF h0 q S a3  _ h) (cwV 1 hts zg_zd_X12_isOperand_zd_X12_isMethod_144 rfl rfl rfl (by decide +kernel) ⟨Nat.le_of_ble_eq_true rfl, Nat.le_of_ble_eq_true rfl⟩) ⟨zBR, va_recv hK hP (ci := 12) (q0 := 0) rfl rfl, fun U hU hW => ⟨rfl, by rw [hU]; exact hP, hE.warm hW⟩⟩ rfl rfl hl.1 rfl (lv_room (Nat.le_of_ble_eq_true rfl)) dX12_isOperand_102 ⟨Nat.le_of_ble_eq_true rfl, Nat.le_of_ble_eq_true rfl⟩)) (fun r5 h => ?_)
    have hz : narrow .boolean (.int r5) = .int r5 := by rcases h.1 with q | q <;> rw [q] <;> rfl
    have h := h.2
    exact W.zret (v := r5) (ty := .boolean) hx hb hr (hz) (fun t ht hW => ⟨_, rfl, h, ht⟩) (fun q h => by cases h) dX12_isOperand_105
  · have h := h.2.2.2.2.2.2.2.2.2.2.2.2.1 h_in
    refine lv_tableIn (off := 125) (tgt := 126) hx hb dX12_isOperand_1 (by rw [h_in]; decide) (by rw [h_in]; decide) (by rw [h_in]; decide) (by decide) ?_
    refine lv_iconst (v := 1) hx hb dX12_isOperand_126 (by decide) ?_
    exact W.zret (v := 1) (ty := .boolean) hx hb hr (by decide) (fun t ht hW => ⟨_, rfl, h, ht⟩) (fun q h => by cases h) dX12_isOperand_127
  · have h := h.2.2.2.2.2.2.2.2.2.2.2.2.2.1 h_in
    refine lv_tableIn (off := 105) (tgt := 106) hx hb dX12_isOperand_1 (by rw [h_in]; decide) (by rw [h_in]; decide) (by rw [h_in]; decide) (by decide) ?_
    refine lv_iload_n hx hb dX12_isOperand_106 rfl (lv_at hl 3 rfl) ?_
    refine lv_i2l (v := (a3 : Int32).toInt64) hx hb dX12_isOperand_107 rfl ?_
    refine lv_lconst (v := 0) hx hb dX12_isOperand_108 (by decide) ?_
    refine lv_ldc2 hx hb hown (hts (.constantLong RX12 150 (7)) (List.mem_of_getElem? (i := 11) rfl)) dX12_isOperand_109 ?_
    have hP0 : va_P D vwCl [] s.heap := fun k q h => by simp at h
    refine vp_callSi (va_Run.run (va_runS (As := [.long ((a3 : Int32).toInt64), .long 0, .long 7]) (rest := []) ⟨hx, hb, hml, hown, hts⟩ (zd_X12_in l D cI cZ cP cF ((a3 : Int32).toInt64) 0 7  _ h) (va_cwS 3 hts zg_zd_X12_isOperand_zd_X12_in_134 rfl rfl rfl (by decide +kernel) ⟨Nat.le_of_ble_eq_true rfl, Nat.le_of_ble_eq_true rfl⟩) ⟨zBR, fun U hU hW => ⟨rfl, by rw [hU]; exact hP0, hE.warm hW⟩⟩ rfl rfl hl.1 rfl (lv_room (Nat.le_of_ble_eq_true rfl)) dX12_isOperand_112 ⟨Nat.le_of_ble_eq_true rfl, Nat.le_of_ble_eq_true rfl⟩)) (fun r6 h => ?_)
    have hz : narrow .boolean (.int r6) = .int r6 := by rcases h.1 with q | q <;> rw [q] <;> rfl
    have h := h.2
    exact W.zret (v := r6) (ty := .boolean) hx hb hr (hz) (fun t ht hW => ⟨_, rfl, h, ht⟩) (fun q h => by cases h) dX12_isOperand_115
  · have h := h.2.2.2.2.2.2.2.2.2.2.2.2.2.2.1 h_in
    refine lv_tableIn (off := 105) (tgt := 106) hx hb dX12_isOperand_1 (by rw [h_in]; decide) (by rw [h_in]; decide) (by rw [h_in]; decide) (by decide) ?_
    refine lv_iload_n hx hb dX12_isOperand_106 rfl (lv_at hl 3 rfl) ?_
    refine lv_i2l (v := (a3 : Int32).toInt64) hx hb dX12_isOperand_107 rfl ?_
    refine lv_lconst (v := 0) hx hb dX12_isOperand_108 (by decide) ?_
    refine lv_ldc2 hx hb hown (hts (.constantLong RX12 150 (7)) (List.mem_of_getElem? (i := 11) rfl)) dX12_isOperand_109 ?_
    have hP0 : va_P D vwCl [] s.heap := fun k q h => by simp at h
    refine vp_callSi (va_Run.run (va_runS (As := [.long ((a3 : Int32).toInt64), .long 0, .long 7]) (rest := []) ⟨hx, hb, hml, hown, hts⟩ (zd_X12_in l D cI cZ cP cF ((a3 : Int32).toInt64) 0 7  _ h) (va_cwS 3 hts zg_zd_X12_isOperand_zd_X12_in_134 rfl rfl rfl (by decide +kernel) ⟨Nat.le_of_ble_eq_true rfl, Nat.le_of_ble_eq_true rfl⟩) ⟨zBR, fun U hU hW => ⟨rfl, by rw [hU]; exact hP0, hE.warm hW⟩⟩ rfl rfl hl.1 rfl (lv_room (Nat.le_of_ble_eq_true rfl)) dX12_isOperand_112 ⟨Nat.le_of_ble_eq_true rfl, Nat.le_of_ble_eq_true rfl⟩)) (fun r7 h => ?_)
    have hz : narrow .boolean (.int r7) = .int r7 := by rcases h.1 with q | q <;> rw [q] <;> rfl
    have h := h.2
    exact W.zret (v := r7) (ty := .boolean) hx hb hr (hz) (fun t ht hW => ⟨_, rfl, h, ht⟩) (fun q h => by cases h) dX12_isOperand_115
  · have h := h.2.2.2.2.2.2.2.2.2.2.2.2.2.2.2.1 h_in
    refine lv_tableIn (off := 115) (tgt := 116) hx hb dX12_isOperand_1 (by rw [h_in]; decide) (by rw [h_in]; decide) (by rw [h_in]; decide) (by decide) ?_
    refine lv_iload_n hx hb dX12_isOperand_116 rfl (lv_at hl 3 rfl) ?_
    refine lv_i2l (v := (a3 : Int32).toInt64) hx hb dX12_isOperand_117 rfl ?_
    refine lv_lconst (v := 0) hx hb dX12_isOperand_118 (by decide) ?_
    refine lv_ldc2 hx hb hown (hts (.constantLong RX12 132 (3)) (List.mem_of_getElem? (i := 12) rfl)) dX12_isOperand_119 ?_
    have hP0 : va_P D vwCl [] s.heap := fun k q h => by simp at h
    refine vp_callSi (va_Run.run (va_runS (As := [.long ((a3 : Int32).toInt64), .long 0, .long 3]) (rest := []) ⟨hx, hb, hml, hown, hts⟩ (zd_X12_in l D cI cZ cP cF ((a3 : Int32).toInt64) 0 3  _ h) (va_cwS 3 hts zg_zd_X12_isOperand_zd_X12_in_134 rfl rfl rfl (by decide +kernel) ⟨Nat.le_of_ble_eq_true rfl, Nat.le_of_ble_eq_true rfl⟩) ⟨zBR, fun U hU hW => ⟨rfl, by rw [hU]; exact hP0, hE.warm hW⟩⟩ rfl rfl hl.1 rfl (lv_room (Nat.le_of_ble_eq_true rfl)) dX12_isOperand_122 ⟨Nat.le_of_ble_eq_true rfl, Nat.le_of_ble_eq_true rfl⟩)) (fun r8 h => ?_)
    have hz : narrow .boolean (.int r8) = .int r8 := by rcases h.1 with q | q <;> rw [q] <;> rfl
    have h := h.2
    exact W.zret (v := r8) (ty := .boolean) hx hb hr (hz) (fun t ht hW => ⟨_, rfl, h, ht⟩) (fun q h => by cases h) dX12_isOperand_125
  · have h := h.2.2.2.2.2.2.2.2.2.2.2.2.2.2.2.2.1 h_in
    refine lv_tableIn (off := 115) (tgt := 116) hx hb dX12_isOperand_1 (by rw [h_in]; decide) (by rw [h_in]; decide) (by rw [h_in]; decide) (by decide) ?_
    refine lv_iload_n hx hb dX12_isOperand_116 rfl (lv_at hl 3 rfl) ?_
    refine lv_i2l (v := (a3 : Int32).toInt64) hx hb dX12_isOperand_117 rfl ?_
    refine lv_lconst (v := 0) hx hb dX12_isOperand_118 (by decide) ?_
    refine lv_ldc2 hx hb hown (hts (.constantLong RX12 132 (3)) (List.mem_of_getElem? (i := 12) rfl)) dX12_isOperand_119 ?_
    have hP0 : va_P D vwCl [] s.heap := fun k q h => by simp at h
    refine vp_callSi (va_Run.run (va_runS (As := [.long ((a3 : Int32).toInt64), .long 0, .long 3]) (rest := []) ⟨hx, hb, hml, hown, hts⟩ (zd_X12_in l D cI cZ cP cF ((a3 : Int32).toInt64) 0 3  _ h) (va_cwS 3 hts zg_zd_X12_isOperand_zd_X12_in_134 rfl rfl rfl (by decide +kernel) ⟨Nat.le_of_ble_eq_true rfl, Nat.le_of_ble_eq_true rfl⟩) ⟨zBR, fun U hU hW => ⟨rfl, by rw [hU]; exact hP0, hE.warm hW⟩⟩ rfl rfl hl.1 rfl (lv_room (Nat.le_of_ble_eq_true rfl)) dX12_isOperand_122 ⟨Nat.le_of_ble_eq_true rfl, Nat.le_of_ble_eq_true rfl⟩)) (fun r9 h => ?_)
    have hz : narrow .boolean (.int r9) = .int r9 := by rcases h.1 with q | q <;> rw [q] <;> rfl
    have h := h.2
    exact W.zret (v := r9) (ty := .boolean) hx hb hr (hz) (fun t ht hW => ⟨_, rfl, h, ht⟩) (fun q h => by cases h) dX12_isOperand_125
  · have h := h.2.2.2.2.2.2.2.2.2.2.2.2.2.2.2.2.2 h_in
    refine lv_tableIn (off := 115) (tgt := 116) hx hb dX12_isOperand_1 (by rw [h_in]; decide) (by rw [h_in]; decide) (by rw [h_in]; decide) (by decide) ?_
    refine lv_iload_n hx hb dX12_isOperand_116 rfl (lv_at hl 3 rfl) ?_
    refine lv_i2l (v := (a3 : Int32).toInt64) hx hb dX12_isOperand_117 rfl ?_
    refine lv_lconst (v := 0) hx hb dX12_isOperand_118 (by decide) ?_
    refine lv_ldc2 hx hb hown (hts (.constantLong RX12 132 (3)) (List.mem_of_getElem? (i := 12) rfl)) dX12_isOperand_119 ?_
    have hP0 : va_P D vwCl [] s.heap := fun k q h => by simp at h
    refine vp_callSi (va_Run.run (va_runS (As := [.long ((a3 : Int32).toInt64), .long 0, .long 3]) (rest := []) ⟨hx, hb, hml, hown, hts⟩ (zd_X12_in l D cI cZ cP cF ((a3 : Int32).toInt64) 0 3  _ h) (va_cwS 3 hts zg_zd_X12_isOperand_zd_X12_in_134 rfl rfl rfl (by decide +kernel) ⟨Nat.le_of_ble_eq_true rfl, Nat.le_of_ble_eq_true rfl⟩) ⟨zBR, fun U hU hW => ⟨rfl, by rw [hU]; exact hP0, hE.warm hW⟩⟩ rfl rfl hl.1 rfl (lv_room (Nat.le_of_ble_eq_true rfl)) dX12_isOperand_122 ⟨Nat.le_of_ble_eq_true rfl, Nat.le_of_ble_eq_true rfl⟩)) (fun r10 h => ?_)
    have hz : narrow .boolean (.int r10) = .int r10 := by rcases h.1 with q | q <;> rw [q] <;> rfl
    have h := h.2
    exact W.zret (v := r10) (ty := .boolean) hx hb hr (hz) (fun t ht hW => ⟨_, rfl, h, ht⟩) (fun q h => by cases h) dX12_isOperand_125
def wp_X12_item (S : MST) (a1 : Int32) (a2 : Int32) (Post : Int32 → Prop) : Prop :=
  wp_X12_in ((a1 : Int32).toInt64) 0 3 (fun r1 => (((r1 : Int32) = 0) → (Post 0)) ∧ ((¬ ((r1 : Int32) = 0)) → (vp_in a1 4 ∧ (wp_X12_in ((a2 : Int32).toInt64) 0 (((S 13 (a1 : Int32).toNatClampNeg) - 1 : Int32).toInt64) (fun r4 => (((r4 : Int32) = 0) → (Post 0)) ∧ ((¬ ((r4 : Int32) = 0)) → (vp_in ((20 * a1) + a2) 80 ∧ (Post (S 14 ((20 * a1) + a2 : Int32).toNatClampNeg)))))))))
def zw_zd_X12_item_w0 : List Cond := [.constantLong RX12 132 (3), .code yX12_in cX12_in 6 (some .boolean), .methodLink RX12 134 yX12_in, .static yX12_in, .initialized RX12, .fieldLink RX12 44 "TemplateForgeModel" "sizes" "[I", .fieldLink RX12 47 "TemplateForgeModel" "rows" "[I"]
def zw_zd_X12_item : List Cond := .code yX12_item cX12_item 3 (some .int) :: ((zw_zd_X12_item_w0) ++ wsX120)
set_option maxRecDepth 100000 in
theorem zg_zd_X12_item_zd_X12_in_134_a : GoodIn zw_zd_X12_item [.methodLink RX12 134 yX12_in, .static yX12_in, .initialized RX12] := goodIn_r _ [3, 4, 5] rfl (by decide +kernel)
set_option maxRecDepth 100000 in
theorem zg_zd_X12_item_zd_X12_in_134_c : GoodIn zw_zd_X12_item [.code yX12_in cX12_in 6 (some .boolean)] := goodIn_r _ [2] rfl (by decide +kernel)
theorem zg_zd_X12_item_zd_X12_in_134 : GoodIn zw_zd_X12_item (va_wsS RX12 134 yX12_in zw_zd_X12_in) := goodIn_app zg_zd_X12_item_zd_X12_in_134_a (show GoodIn zw_zd_X12_item (.code yX12_in cX12_in 6 (some .boolean) :: (([] : List Cond))) from zg_zd_X12_item_zd_X12_in_134_c)
set_option maxHeartbeats 16000000 in
set_option maxRecDepth 100000 in
theorem zd_X12_item (l : Launch) (D : va_G) (cI cZ cP cF : Nat) (h0 : Nat) (q : Nat → Nat) (S : MST) (a1 : Int32) (a2 : Int32) (Post : Int32 → Prop) (h : wp_X12_item S a1 a2 Post) : Met l yX12_item zw_zd_X12_item ({ frames := 1, cells := 0, slots := 0, locals := 25 }) (va_Pc [.ref h0, .int a1, .int a2] (fun U => va_P D vwCl (mW cI cZ h0 q S) U.heap ∧ zE D cI cZ cP cF U)) (vp_Si Post) 0 0 (fun _ => False) := by
  unfold wp_X12_item at h
  refine Met.ofW (cc := cX12_item) (maxL := 3) (ret := (some .int)) (by decide) rfl ?_
  intro p e s m args below meth c s₁ B hml hv
  obtain ⟨rfl, hP, hE⟩ := hv
  have hx := B.exec
  have hb := B.bytes
  have hr := B.returns
  have hts := atoms_spec (ws := zw_zd_X12_item) B.pre
  have hown : s.vm.findClass RX12 = some m.cls := findClass_of_methodNamed B.named
  have hlocks := B.notSynchronized
  have hK := hE.k
  have hl := lv_entry ([.ref h0, .int a1, .int a2]) (n := 3) (Nat.le_of_ble_eq_true rfl)
  rw [lg_entry_eq]
  generalize (lg_sl ([.ref h0, .int a1, .int a2]) ++ List.replicate (3 - (lg_sl ([.ref h0, .int a1, .int a2])).length) Slot.unset).toArray = ls at hl ⊢
  have hl : lv_has ls 3 [(0, .ref h0), (1, .int a1), (2, .int a2)] := hl
  refine lv_iload_n hx hb dX12_item_0 rfl (lv_at hl 1 rfl) ?_
  refine lv_i2l (v := (a1 : Int32).toInt64) hx hb dX12_item_1 rfl ?_
  refine lv_lconst (v := 0) hx hb dX12_item_2 (by decide) ?_
  refine lv_ldc2 hx hb hown (hts (.constantLong RX12 132 (3)) (List.mem_of_getElem? (i := 1) rfl)) dX12_item_3 ?_
  have hP0 : va_P D vwCl [] s.heap := fun k q h => by simp at h
  refine vp_callSi (va_Run.run (va_runS (As := [.long ((a1 : Int32).toInt64), .long 0, .long 3]) (rest := []) ⟨hx, hb, hml, hown, hts⟩ (zd_X12_in l D cI cZ cP cF ((a1 : Int32).toInt64) 0 3  _ h) (va_cwS 3 hts zg_zd_X12_item_zd_X12_in_134 rfl rfl rfl (by decide +kernel) ⟨Nat.le_of_ble_eq_true rfl, Nat.le_of_ble_eq_true rfl⟩) ⟨zBR, fun U hU hW => ⟨rfl, by rw [hU]; exact hP0, hE.warm hW⟩⟩ rfl rfl hl.1 rfl (lv_room (Nat.le_of_ble_eq_true rfl)) dX12_item_6 ⟨Nat.le_of_ble_eq_true rfl, Nat.le_of_ble_eq_true rfl⟩)) (fun r1 h => ?_)
  refine lv_if_eq (tgt := 44) hx hb dX12_item_9 (by decide) (fun c_2 => ?_) (fun c_2 => ?_)
  · have h := h.1 c_2
    refine lv_iconst (v := 0) hx hb dX12_item_44 (by decide) ?_
    exact W.iret (v := 0) hx hb hr (fun t ht hW => ⟨_, rfl, h, ht⟩) (fun q h => by cases h) dX12_item_45
  · have h := h.2 c_2
    refine lv_iload_n hx hb dX12_item_12 rfl (lv_at hl 2 rfl) ?_
    refine lv_i2l (v := (a2 : Int32).toInt64) hx hb dX12_item_13 rfl ?_
    refine lv_lconst (v := 0) hx hb dX12_item_14 (by decide) ?_
    refine lv_aload_n hx hb dX12_item_15 rfl (lv_at hl 0 rfl) ?_
    refine va_get (D := D) (ci := 12) (v := .ref (q 13)) (C := RX12) (T := TX12) (N := 52) hx hb hts (fun _ h => List.mem_cons_of_mem _ (List.mem_append_right _ h)) hown hK hP 0 rfl rfl 13 (by decide) (hts (.fieldLink RX12 44 "TemplateForgeModel" "sizes" "[I") (List.mem_of_getElem? (i := 6) rfl)) (fun _ h9 => h9) rfl dX12_item_16 ?_
    refine lv_iload_n hx hb dX12_item_19 rfl (lv_at hl 1 rfl) ?_
    have hin_3 := h.1
    have h := h.2
    refine va_iald hx hb hK hP 12 0 rfl rfl hin_3 dX12_item_20 ?_
    refine lv_iconst (v := 1) hx hb dX12_item_21 (by decide) ?_
    refine lv_isub hx hb dX12_item_22 ?_
    refine lv_i2l (v := ((S 13 (a1 : Int32).toNatClampNeg) - 1 : Int32).toInt64) hx hb dX12_item_23 rfl ?_
    have hP0 : va_P D vwCl [] s.heap := fun k q h => by simp at h
    refine vp_callSi (va_Run.run (va_runS (As := [.long ((a2 : Int32).toInt64), .long 0, .long (((S 13 (a1 : Int32).toNatClampNeg) - 1 : Int32).toInt64)]) (rest := []) ⟨hx, hb, hml, hown, hts⟩ (zd_X12_in l D cI cZ cP cF ((a2 : Int32).toInt64) 0 (((S 13 (a1 : Int32).toNatClampNeg) - 1 : Int32).toInt64)  _ h) (va_cwS 3 hts zg_zd_X12_item_zd_X12_in_134 rfl rfl rfl (by decide +kernel) ⟨Nat.le_of_ble_eq_true rfl, Nat.le_of_ble_eq_true rfl⟩) ⟨zBR, fun U hU hW => ⟨rfl, by rw [hU]; exact hP0, hE.warm hW⟩⟩ rfl rfl hl.1 rfl (lv_room (Nat.le_of_ble_eq_true rfl)) dX12_item_24 ⟨Nat.le_of_ble_eq_true rfl, Nat.le_of_ble_eq_true rfl⟩)) (fun r4 h => ?_)
    refine lv_if_eq (tgt := 44) hx hb dX12_item_27 (by decide) (fun c_5 => ?_) (fun c_5 => ?_)
    · have h := h.1 c_5
      refine lv_iconst (v := 0) hx hb dX12_item_44 (by decide) ?_
      exact W.iret (v := 0) hx hb hr (fun t ht hW => ⟨_, rfl, h, ht⟩) (fun q h => by cases h) dX12_item_45
    · have h := h.2 c_5
      refine lv_aload_n hx hb dX12_item_30 rfl (lv_at hl 0 rfl) ?_
      refine va_get (D := D) (ci := 12) (v := .ref (q 14)) (C := RX12) (T := TX12) (N := 52) hx hb hts (fun _ h => List.mem_cons_of_mem _ (List.mem_append_right _ h)) hown hK hP 0 rfl rfl 14 (by decide) (hts (.fieldLink RX12 47 "TemplateForgeModel" "rows" "[I") (List.mem_of_getElem? (i := 7) rfl)) (fun _ h9 => h9) rfl dX12_item_31 ?_
      refine lv_bipush (v := 20) hx hb dX12_item_34 (by decide) ?_
      refine lv_iload_n hx hb dX12_item_36 rfl (lv_at hl 1 rfl) ?_
      refine lv_imul hx hb dX12_item_37 ?_
      refine lv_iload_n hx hb dX12_item_38 rfl (lv_at hl 2 rfl) ?_
      refine lv_iadd hx hb dX12_item_39 ?_
      have hin_6 := h.1
      have h := h.2
      refine va_iald hx hb hK hP 13 0 rfl rfl hin_6 dX12_item_40 ?_
      refine lv_goto (tgt := 45) hx hb dX12_item_41 (by decide) ?_
      exact W.iret (v := S 14 ((20 * a1) + a2 : Int32).toNatClampNeg) hx hb hr (fun t ht hW => ⟨_, rfl, h, ht⟩) (fun q h => by cases h) dX12_item_45
def wp_X12_keep (S : MST) (a1 : Int32) (a2 : Int32) (Post : MST → Int32 → Prop) : Prop :=
  wp_X12_in ((a1 : Int32).toInt64) 0 7 (fun r1 => ((¬ ((r1 : Int32) = 0)) → (vp_in a1 8 ∧ (vp_in a1 8 ∧ (∀ S4 : MST, S4 = ms S 12 (upd (S 12) (a1 : Int32).toNatClampNeg a2) → (Post S4 (S 12 (a1 : Int32).toNatClampNeg)))))) ∧ (((r1 : Int32) = 0) → (Post S (-2147483648))))
def zw_zd_X12_keep_w0 : List Cond := [.constantLong RX12 150 (7), .code yX12_in cX12_in 6 (some .boolean), .methodLink RX12 134 yX12_in, .static yX12_in, .initialized RX12, .fieldLink RX12 41 "TemplateForgeModel" "fields" "[I", .constant RX12 177 (-2147483648)]
def zw_zd_X12_keep : List Cond := .code yX12_keep cX12_keep 4 (some .int) :: ((zw_zd_X12_keep_w0) ++ wsX120)
set_option maxRecDepth 100000 in
theorem zg_zd_X12_keep_zd_X12_in_134_a : GoodIn zw_zd_X12_keep [.methodLink RX12 134 yX12_in, .static yX12_in, .initialized RX12] := goodIn_r _ [3, 4, 5] rfl (by decide +kernel)
set_option maxRecDepth 100000 in
theorem zg_zd_X12_keep_zd_X12_in_134_c : GoodIn zw_zd_X12_keep [.code yX12_in cX12_in 6 (some .boolean)] := goodIn_r _ [2] rfl (by decide +kernel)
theorem zg_zd_X12_keep_zd_X12_in_134 : GoodIn zw_zd_X12_keep (va_wsS RX12 134 yX12_in zw_zd_X12_in) := goodIn_app zg_zd_X12_keep_zd_X12_in_134_a (show GoodIn zw_zd_X12_keep (.code yX12_in cX12_in 6 (some .boolean) :: (([] : List Cond))) from zg_zd_X12_keep_zd_X12_in_134_c)
set_option maxHeartbeats 16000000 in
set_option maxRecDepth 100000 in
theorem zd_X12_keep (l : Launch) (D : va_G) (cI cZ cP cF : Nat) (h0 : Nat) (q : Nat → Nat) (S : MST) (a1 : Int32) (a2 : Int32) (sz : Nat) (Post : MST → Int32 → Prop) (h : wp_X12_keep S a1 a2 Post) : Met l yX12_keep zw_zd_X12_keep ({ frames := 1, cells := 0, slots := 0, locals := 25 }) (va_Pc [.ref h0, .int a1, .int a2] (fun U => U.heap.size = sz ∧ va_P D vwCl (mW cI cZ h0 q S) U.heap ∧ zE D cI cZ cP cF U ∧ va_D (fun _ => True) (mW cI cZ h0 q S))) (va_Qi (fun r S' => Post S' r) (fun (S' : MST) t => va_P D vwCl (mW cI cZ h0 q S') t.heap ∧ va_D (va_A (mW cI cZ h0 q S) sz) (mW cI cZ h0 q S')) (va_A (mW cI cZ h0 q S) sz)) 0 0 (va_A (mW cI cZ h0 q S) sz) := by
  unfold wp_X12_keep at h
  refine Met.ofW (cc := cX12_keep) (maxL := 4) (ret := (some .int)) (by decide) rfl ?_
  intro p e s m args below meth c s₁ B hml hv
  obtain ⟨rfl, hsz, hP, hE, hD0⟩ := hv
  have hx := B.exec
  have hb := B.bytes
  have hr := B.returns
  have hts := atoms_spec (ws := zw_zd_X12_keep) B.pre
  have hown : s.vm.findClass RX12 = some m.cls := findClass_of_methodNamed B.named
  have hlocks := B.notSynchronized
  have hK := hE.k
  subst hsz
  have hD := hD0.self (sz := s.heap.size)
  generalize hAe : va_A (mW cI cZ h0 q S) s.heap.size = A at hD ⊢
  have hA : ∀ q : Nat, s.heap.size ≤ q → A q := fun q h => by rw [← hAe]; exact Or.inr h
  have hl := lv_entry ([.ref h0, .int a1, .int a2]) (n := 4) (Nat.le_of_ble_eq_true rfl)
  rw [lg_entry_eq]
  generalize (lg_sl ([.ref h0, .int a1, .int a2]) ++ List.replicate (4 - (lg_sl ([.ref h0, .int a1, .int a2])).length) Slot.unset).toArray = ls at hl ⊢
  have hl : lv_has ls 4 [(0, .ref h0), (1, .int a1), (2, .int a2)] := hl
  have key : ∀ (H : Heap) (locs : List Loc), va_P D vwCl (mW cI cZ h0 q S) H → va_S A s.heap H locs → W p l e (headSpec zw_zd_X12_keep ({ frames := 1, cells := 0, slots := 0, locals := 25 })).room s m ([.ref h0, .int a1, .int a2] : List Value).toArray below meth c H locs 0 0 (MQ below (va_Qi (fun r S' => Post S' r) (fun (S' : MST) t => va_P D vwCl (mW cI cZ h0 q S') t.heap ∧ va_D A (mW cI cZ h0 q S')) A) ([.ref h0, .int a1, .int a2] : List Value).toArray s 0 0 A) (F0 m 0 ls []) := by
    intro H locs hP hS
    refine lv_iload_n hx hb dX12_keep_0 rfl (lv_at hl 1 rfl) ?_
    refine lv_i2l (v := (a1 : Int32).toInt64) hx hb dX12_keep_1 rfl ?_
    refine lv_lconst (v := 0) hx hb dX12_keep_2 (by decide) ?_
    refine lv_ldc2 hx hb hown (hts (.constantLong RX12 150 (7)) (List.mem_of_getElem? (i := 1) rfl)) dX12_keep_3 ?_
    have hP0 : va_P D vwCl [] H := fun k q h => by simp at h
    refine vp_callSi (va_Run.run (va_runS (As := [.long ((a1 : Int32).toInt64), .long 0, .long 7]) (rest := []) ⟨hx, hb, hml, hown, hts⟩ (zd_X12_in l D cI cZ cP cF ((a1 : Int32).toInt64) 0 7  _ h) (va_cwS 3 hts zg_zd_X12_keep_zd_X12_in_134 rfl rfl rfl (by decide +kernel) ⟨Nat.le_of_ble_eq_true rfl, Nat.le_of_ble_eq_true rfl⟩) ⟨zBR, fun U hU hW => ⟨rfl, by rw [hU]; exact hP0, hE.warm hW⟩⟩ rfl rfl hl.1 rfl (lv_room (Nat.le_of_ble_eq_true rfl)) dX12_keep_6 ⟨Nat.le_of_ble_eq_true rfl, Nat.le_of_ble_eq_true rfl⟩)) (fun r1 h => ?_)
    refine lv_if_ne (tgt := 15) hx hb dX12_keep_9 (by decide) (fun c_2 => ?_) (fun c_2 => ?_)
    · have h := h.1 c_2
      refine lv_aload_n hx hb dX12_keep_15 rfl (lv_at hl 0 rfl) ?_
      refine va_get (D := D) (ci := 12) (v := .ref (q 12)) (C := RX12) (T := TX12) (N := 52) hx hb hts (fun _ h => List.mem_cons_of_mem _ (List.mem_append_right _ h)) hown hK hP 0 rfl rfl 12 (by decide) (hts (.fieldLink RX12 41 "TemplateForgeModel" "fields" "[I") (List.mem_of_getElem? (i := 6) rfl)) (fun _ h9 => h9) rfl dX12_keep_16 ?_
      refine lv_iload_n hx hb dX12_keep_19 rfl (lv_at hl 1 rfl) ?_
      have hin_3 := h.1
      have h := h.2
      refine va_iald hx hb hK hP 11 0 rfl rfl hin_3 dX12_keep_20 ?_
      refine lv_istore_n (lv' := [(3, .int (S 12 (a1 : Int32).toNatClampNeg)), (0, .ref h0), (1, .int a1), (2, .int a2)]) hx hb dX12_keep_21 rfl hl (by decide) rfl (fun ls hl => ?_)
      refine lv_aload_n hx hb dX12_keep_22 rfl (lv_at hl 1 rfl) ?_
      refine va_get (D := D) (ci := 12) (v := .ref (q 12)) (C := RX12) (T := TX12) (N := 52) hx hb hts (fun _ h => List.mem_cons_of_mem _ (List.mem_append_right _ h)) hown hK hP 0 rfl rfl 12 (by decide) (hts (.fieldLink RX12 41 "TemplateForgeModel" "fields" "[I") (List.mem_of_getElem? (i := 6) rfl)) (fun _ h9 => h9) rfl dX12_keep_23 ?_
      refine lv_iload_n hx hb dX12_keep_26 rfl (lv_at hl 2 rfl) ?_
      refine lv_iload_n hx hb dX12_keep_27 rfl (lv_at hl 3 rfl) ?_
      have hin_4 := h.1
      have h := h.2
      refine va_iast hx hb hK hP hD hS 11 0 rfl rfl hin_4 dX12_keep_28 (fun H locs hP hD hS => ?_)
      obtain ⟨S4, eS4⟩ : ∃ z, z = ms S 12 (upd (S 12) (a1 : Int32).toNatClampNeg a2) := ⟨_, rfl⟩
      have hP : va_P D vwCl (mW cI cZ h0 q S4) H := by rw [eS4]; exact hP
      have hD : va_D A (mW cI cZ h0 q S4) := by rw [eS4]; exact hD
      have h := h S4 eS4
      refine lv_iload_n hx hb dX12_keep_29 rfl (lv_at hl 0 rfl) ?_
      exact W.iret (v := S 12 (a1 : Int32).toNatClampNeg) hx hb hr (fun t ht hW => ⟨⟨_, S4, rfl, h, by rw [ht]; exact hP, hD⟩, hS.F ht⟩) hS.2.2 dX12_keep_30
    · have h := h.2 c_2
      refine lv_ldc hx hb hown (hts (.constant RX12 177 (-2147483648)) (List.mem_of_getElem? (i := 7) rfl)) dX12_keep_12 ?_
      exact W.iret (v := (-2147483648)) hx hb hr (fun t ht hW => ⟨⟨_, S, rfl, h, by rw [ht]; exact hP, hD⟩, hS.F ht⟩) hS.2.2 dX12_keep_14
  exact key _ _ hP va_S.rf
def wp_X12_looksAt (S : MST) (a1 : Int32) (a2 : Int32) (Post : MST → Int32 → Prop) : Prop :=
  vp_in ((60 * a1) + a2) 480 ∧ (vp_in ((60 * a1) + a2) 480 ∧ (vp_in ((60 * a1) + a2) 480 ∧ (wp_X12_isOperand S a1 (S 4 ((60 * a1) + a2 : Int32).toNatClampNeg) (S 5 ((60 * a1) + a2 : Int32).toNatClampNeg) (fun r4 => ((¬ ((r4 : Int32) = 0)) → (wp_X12_takes S (S 4 ((60 * a1) + a2 : Int32).toNatClampNeg) (S 5 ((60 * a1) + a2 : Int32).toNatClampNeg) (fun r6 => ((r6 ≤ (S 7 ((60 * a1) + a2 : Int32).toNatClampNeg)) → (wp_X12_takes S (S 4 ((60 * a1) + a2 : Int32).toNatClampNeg) (S 5 ((60 * a1) + a2 : Int32).toNatClampNeg) (fun r8 => wp_X12_lays (S 4 ((60 * a1) + a2 : Int32).toNatClampNeg) (fun r9 => ((((((S 7 ((60 * a1) + a2 : Int32).toNatClampNeg) - r8) + r9) : Int32) ≤ 8) → (((((S 4 ((60 * a1) + a2 : Int32).toNatClampNeg) : Int32) = 9) → (vp_in a1 8 ∧ (wp_X12_in ((S 5 ((60 * a1) + a2 : Int32).toNatClampNeg : Int32).toInt64) 0 (((S 3 (a1 : Int32).toNatClampNeg) - 1 : Int32).toInt64) (fun r13 => ((¬ ((r13 : Int32) = 0)) → (wp_X12_comesTo S a1 (S 5 ((60 * a1) + a2 : Int32).toNatClampNeg) (((S 7 ((60 * a1) + a2 : Int32).toNatClampNeg) - r8) + r9) (fun S15 r15 => (((r15 : Int32) = 0) → (((((S 4 ((60 * a1) + a2 : Int32).toNatClampNeg) : Int32) = 9) → (Post S15 0)) ∧ ((¬ (((S 4 ((60 * a1) + a2 : Int32).toNatClampNeg) : Int32) = 9)) → (((¬ (((S 4 ((60 * a1) + a2 : Int32).toNatClampNeg) : Int32) = 12)) → (vp_in a1 8 ∧ (((¬ (((a2 + 1) : Int32) = (S15 3 (a1 : Int32).toNatClampNeg))) → (wp_X12_comesTo S15 a1 (a2 + 1) (((S 7 ((60 * a1) + a2 : Int32).toNatClampNeg) - r8) + r9) (fun S21 r21 => Post S21 r21))) ∧ ((((a2 + 1) : Int32) = (S15 3 (a1 : Int32).toNatClampNeg)) → (Post S15 5))))) ∧ ((((S 4 ((60 * a1) + a2 : Int32).toNatClampNeg) : Int32) = 12) → (Post S15 0)))))) ∧ ((¬ ((r15 : Int32) = 0)) → (Post S15 r15))))) ∧ (((r13 : Int32) = 0) → (Post S 4)))))) ∧ ((¬ (((S 4 ((60 * a1) + a2 : Int32).toNatClampNeg) : Int32) = 9)) → (((¬ (((S 4 ((60 * a1) + a2 : Int32).toNatClampNeg) : Int32) = 10)) → (((((S 4 ((60 * a1) + a2 : Int32).toNatClampNeg) : Int32) = 9) → (Post S 0)) ∧ ((¬ (((S 4 ((60 * a1) + a2 : Int32).toNatClampNeg) : Int32) = 9)) → (((¬ (((S 4 ((60 * a1) + a2 : Int32).toNatClampNeg) : Int32) = 12)) → (vp_in a1 8 ∧ (((¬ (((a2 + 1) : Int32) = (S 3 (a1 : Int32).toNatClampNeg))) → (wp_X12_comesTo S a1 (a2 + 1) (((S 7 ((60 * a1) + a2 : Int32).toNatClampNeg) - r8) + r9) (fun S27 r27 => Post S27 r27))) ∧ ((((a2 + 1) : Int32) = (S 3 (a1 : Int32).toNatClampNeg)) → (Post S 5))))) ∧ ((((S 4 ((60 * a1) + a2 : Int32).toNatClampNeg) : Int32) = 12) → (Post S 0)))))) ∧ ((((S 4 ((60 * a1) + a2 : Int32).toNatClampNeg) : Int32) = 10) → (vp_in a1 8 ∧ (wp_X12_in ((S 5 ((60 * a1) + a2 : Int32).toNatClampNeg : Int32).toInt64) 0 (((S 3 (a1 : Int32).toNatClampNeg) - 1 : Int32).toInt64) (fun r29 => ((¬ ((r29 : Int32) = 0)) → (wp_X12_comesTo S a1 (S 5 ((60 * a1) + a2 : Int32).toNatClampNeg) (((S 7 ((60 * a1) + a2 : Int32).toNatClampNeg) - r8) + r9) (fun S31 r31 => (((r31 : Int32) = 0) → (((((S 4 ((60 * a1) + a2 : Int32).toNatClampNeg) : Int32) = 9) → (Post S31 0)) ∧ ((¬ (((S 4 ((60 * a1) + a2 : Int32).toNatClampNeg) : Int32) = 9)) → (((¬ (((S 4 ((60 * a1) + a2 : Int32).toNatClampNeg) : Int32) = 12)) → (vp_in a1 8 ∧ (((¬ (((a2 + 1) : Int32) = (S31 3 (a1 : Int32).toNatClampNeg))) → (wp_X12_comesTo S31 a1 (a2 + 1) (((S 7 ((60 * a1) + a2 : Int32).toNatClampNeg) - r8) + r9) (fun S37 r37 => Post S37 r37))) ∧ ((((a2 + 1) : Int32) = (S31 3 (a1 : Int32).toNatClampNeg)) → (Post S31 5))))) ∧ ((((S 4 ((60 * a1) + a2 : Int32).toNatClampNeg) : Int32) = 12) → (Post S31 0)))))) ∧ ((¬ ((r31 : Int32) = 0)) → (Post S31 r31))))) ∧ (((r29 : Int32) = 0) → (Post S 4)))))))))) ∧ ((¬ (((((S 7 ((60 * a1) + a2 : Int32).toNatClampNeg) - r8) + r9) : Int32) ≤ 8)) → (Post S 2)))))) ∧ ((¬ (r6 ≤ (S 7 ((60 * a1) + a2 : Int32).toNatClampNeg))) → (Post S 1))))) ∧ (((r4 : Int32) = 0) → (Post S 6))))))
def zw_zd_X12_looksAt_w0 : List Cond := [.fieldLink RX12 19 "TemplateForgeModel" "op" "[I", .fieldLink RX12 22 "TemplateForgeModel" "operand" "[I", .fieldLink RX12 29 "TemplateForgeModel" "depths" "[I", .code yX12_isOperand cX12_isOperand 4 (some .boolean), .fieldLink RX12 13 "TemplateForgeModel" "locals" "[I", .code yX12_in cX12_in 6 (some .boolean), .methodLink RX12 134 yX12_in, .static yX12_in, .initialized RX12, .code yX12_isMethod cX12_isMethod 2 (some .boolean), .fieldLink RX12 140 "TemplateForgeModel" "methods" "I", .methodLink RX12 144 yX12_isMethod, .instanceMethod yX12_isMethod, .selects RX12 yX12_isMethod yX12_isMethod, .constantLong RX12 150 (7), .constantLong RX12 132 (3)]
def zw_zd_X12_looksAt_w1 : List Cond := [.methodLink RX12 152 yX12_isOperand, .instanceMethod yX12_isOperand, .selects RX12 yX12_isOperand yX12_isOperand, .code yX12_takes cX12_takes 3 (some .int), .fieldLink RX12 7 "TemplateForgeModel" "args" "[I", .methodLink RX12 156 yX12_takes, .instanceMethod yX12_takes, .selects RX12 yX12_takes yX12_takes, .code yX12_lays cX12_lays 1 (some .int), .methodLink RX12 160 yX12_lays, .static yX12_lays, .fieldLink RX12 16 "TemplateForgeModel" "many" "[I", .code yX12_comesTo cX12_comesTo 4 (some .int), .fieldLink RX12 35 "TemplateForgeModel" "waits" "[Z", .methodLink RX12 164 yX12_comesTo, .instanceMethod yX12_comesTo]
def zw_zd_X12_looksAt_w2 : List Cond := [.selects RX12 yX12_comesTo yX12_comesTo]
def zw_zd_X12_looksAt : List Cond := .code yX12_looksAt cX12_looksAt 8 (some .int) :: ((zw_zd_X12_looksAt_w0 ++ (zw_zd_X12_looksAt_w1 ++ (zw_zd_X12_looksAt_w2))) ++ wsX120)
set_option maxRecDepth 100000 in
theorem zg_zd_X12_looksAt_zd_X12_isOperand_152_a : GoodIn zw_zd_X12_looksAt [.methodLink RX12 152 yX12_isOperand, .instanceMethod yX12_isOperand, .selects RX12 yX12_isOperand yX12_isOperand, .initialized RX12] := goodIn_r _ [17, 18, 19, 9] rfl (by decide +kernel)
set_option maxRecDepth 100000 in
theorem zg_zd_X12_looksAt_zd_X12_isOperand_152_c : GoodIn zw_zd_X12_looksAt [.code yX12_isOperand cX12_isOperand 4 (some .boolean)] := goodIn_r _ [4] rfl (by decide +kernel)
set_option maxRecDepth 100000 in
theorem zg_zd_X12_looksAt_zd_X12_isOperand_152_0 : GoodIn zw_zd_X12_looksAt zw_zd_X12_isOperand_w0 := goodIn_r _ [5, 6, 7, 8, 9, 10, 11, 12, 13, 14, 15, 16] rfl (by decide +kernel)
theorem zg_zd_X12_looksAt_zd_X12_isOperand_152 : GoodIn zw_zd_X12_looksAt (wsV RX12 152 RX12 yX12_isOperand zw_zd_X12_isOperand) := goodIn_app zg_zd_X12_looksAt_zd_X12_isOperand_152_a (goodIn_ca (a := (zw_zd_X12_isOperand_w0)) (show GoodIn zw_zd_X12_looksAt (.code yX12_isOperand cX12_isOperand 4 (some .boolean) :: (zw_zd_X12_isOperand_w0)) from goodIn_app zg_zd_X12_looksAt_zd_X12_isOperand_152_c (zg_zd_X12_looksAt_zd_X12_isOperand_152_0)) (fun w h => ⟨(fun _ h => List.mem_cons_of_mem _ (List.mem_append_right _ h)) w h, good_of_word (List.all_eq_true.mp zgw_X12 w h)⟩))
set_option maxRecDepth 100000 in
theorem zg_zd_X12_looksAt_zd_X12_takes_156_a : GoodIn zw_zd_X12_looksAt [.methodLink RX12 156 yX12_takes, .instanceMethod yX12_takes, .selects RX12 yX12_takes yX12_takes, .initialized RX12] := goodIn_r _ [22, 23, 24, 9] rfl (by decide +kernel)
set_option maxRecDepth 100000 in
theorem zg_zd_X12_looksAt_zd_X12_takes_156_c : GoodIn zw_zd_X12_looksAt [.code yX12_takes cX12_takes 3 (some .int)] := goodIn_r _ [20] rfl (by decide +kernel)
set_option maxRecDepth 100000 in
theorem zg_zd_X12_looksAt_zd_X12_takes_156_0 : GoodIn zw_zd_X12_looksAt zw_zd_X12_takes_w0 := goodIn_r _ [21] rfl (by decide +kernel)
theorem zg_zd_X12_looksAt_zd_X12_takes_156 : GoodIn zw_zd_X12_looksAt (wsV RX12 156 RX12 yX12_takes zw_zd_X12_takes) := goodIn_app zg_zd_X12_looksAt_zd_X12_takes_156_a (goodIn_ca (a := (zw_zd_X12_takes_w0)) (show GoodIn zw_zd_X12_looksAt (.code yX12_takes cX12_takes 3 (some .int) :: (zw_zd_X12_takes_w0)) from goodIn_app zg_zd_X12_looksAt_zd_X12_takes_156_c (zg_zd_X12_looksAt_zd_X12_takes_156_0)) (fun w h => ⟨(fun _ h => List.mem_cons_of_mem _ (List.mem_append_right _ h)) w h, good_of_word (List.all_eq_true.mp zgw_X12 w h)⟩))
set_option maxRecDepth 100000 in
theorem zg_zd_X12_looksAt_zd_X12_lays_160_a : GoodIn zw_zd_X12_looksAt [.methodLink RX12 160 yX12_lays, .static yX12_lays, .initialized RX12] := goodIn_r _ [26, 27, 9] rfl (by decide +kernel)
set_option maxRecDepth 100000 in
theorem zg_zd_X12_looksAt_zd_X12_lays_160_c : GoodIn zw_zd_X12_looksAt [.code yX12_lays cX12_lays 1 (some .int)] := goodIn_r _ [25] rfl (by decide +kernel)
theorem zg_zd_X12_looksAt_zd_X12_lays_160 : GoodIn zw_zd_X12_looksAt (va_wsS RX12 160 yX12_lays zw_zd_X12_lays) := goodIn_app zg_zd_X12_looksAt_zd_X12_lays_160_a (show GoodIn zw_zd_X12_looksAt (.code yX12_lays cX12_lays 1 (some .int) :: (([] : List Cond))) from zg_zd_X12_looksAt_zd_X12_lays_160_c)
set_option maxRecDepth 100000 in
theorem zg_zd_X12_looksAt_zd_X12_in_134_a : GoodIn zw_zd_X12_looksAt [.methodLink RX12 134 yX12_in, .static yX12_in, .initialized RX12] := goodIn_r _ [7, 8, 9] rfl (by decide +kernel)
set_option maxRecDepth 100000 in
theorem zg_zd_X12_looksAt_zd_X12_in_134_c : GoodIn zw_zd_X12_looksAt [.code yX12_in cX12_in 6 (some .boolean)] := goodIn_r _ [6] rfl (by decide +kernel)
theorem zg_zd_X12_looksAt_zd_X12_in_134 : GoodIn zw_zd_X12_looksAt (va_wsS RX12 134 yX12_in zw_zd_X12_in) := goodIn_app zg_zd_X12_looksAt_zd_X12_in_134_a (show GoodIn zw_zd_X12_looksAt (.code yX12_in cX12_in 6 (some .boolean) :: (([] : List Cond))) from zg_zd_X12_looksAt_zd_X12_in_134_c)
set_option maxRecDepth 100000 in
theorem zg_zd_X12_looksAt_zd_X12_comesTo_164_a : GoodIn zw_zd_X12_looksAt [.methodLink RX12 164 yX12_comesTo, .instanceMethod yX12_comesTo, .selects RX12 yX12_comesTo yX12_comesTo, .initialized RX12] := goodIn_r _ [31, 32, 33, 9] rfl (by decide +kernel)
set_option maxRecDepth 100000 in
theorem zg_zd_X12_looksAt_zd_X12_comesTo_164_c : GoodIn zw_zd_X12_looksAt [.code yX12_comesTo cX12_comesTo 4 (some .int)] := goodIn_r _ [29] rfl (by decide +kernel)
set_option maxRecDepth 100000 in
theorem zg_zd_X12_looksAt_zd_X12_comesTo_164_0 : GoodIn zw_zd_X12_looksAt zw_zd_X12_comesTo_w0 := goodIn_r _ [3, 30] rfl (by decide +kernel)
theorem zg_zd_X12_looksAt_zd_X12_comesTo_164 : GoodIn zw_zd_X12_looksAt (wsV RX12 164 RX12 yX12_comesTo zw_zd_X12_comesTo) := goodIn_app zg_zd_X12_looksAt_zd_X12_comesTo_164_a (goodIn_ca (a := (zw_zd_X12_comesTo_w0)) (show GoodIn zw_zd_X12_looksAt (.code yX12_comesTo cX12_comesTo 4 (some .int) :: (zw_zd_X12_comesTo_w0)) from goodIn_app zg_zd_X12_looksAt_zd_X12_comesTo_164_c (zg_zd_X12_looksAt_zd_X12_comesTo_164_0)) (fun w h => ⟨(fun _ h => List.mem_cons_of_mem _ (List.mem_append_right _ h)) w h, good_of_word (List.all_eq_true.mp zgw_X12 w h)⟩))
set_option maxHeartbeats 16000000 in
set_option maxRecDepth 100000 in
theorem zd_X12_looksAt (l : Launch) (D : va_G) (cI cZ cP cF : Nat) (h0 : Nat) (q : Nat → Nat) (S : MST) (a1 : Int32) (a2 : Int32) (sz : Nat) (Post : MST → Int32 → Prop) (h : wp_X12_looksAt S a1 a2 Post) : Met l yX12_looksAt zw_zd_X12_looksAt ({ frames := 3, cells := 0, slots := 0, locals := 69 }) (va_Pc [.ref h0, .int a1, .int a2] (fun U => U.heap.size = sz ∧ va_P D vwCl (mW cI cZ h0 q S) U.heap ∧ zE D cI cZ cP cF U ∧ va_D (fun _ => True) (mW cI cZ h0 q S))) (va_Qi (fun r S' => Post S' r) (fun (S' : MST) t => va_P D vwCl (mW cI cZ h0 q S') t.heap ∧ va_D (va_A (mW cI cZ h0 q S) sz) (mW cI cZ h0 q S')) (va_A (mW cI cZ h0 q S) sz)) 0 0 (va_A (mW cI cZ h0 q S) sz) := by
  unfold wp_X12_looksAt at h
  refine Met.ofW (cc := cX12_looksAt) (maxL := 8) (ret := (some .int)) (by decide) rfl ?_
  intro p e s m args below meth c s₁ B hml hv
  obtain ⟨rfl, hsz, hP, hE, hD0⟩ := hv
  have hx := B.exec
  have hb := B.bytes
  have hr := B.returns
  have hts := atoms_spec (ws := zw_zd_X12_looksAt) B.pre
  have hown : s.vm.findClass RX12 = some m.cls := findClass_of_methodNamed B.named
  have hlocks := B.notSynchronized
  have hK := hE.k
  subst hsz
  have hD := hD0.self (sz := s.heap.size)
  generalize hAe : va_A (mW cI cZ h0 q S) s.heap.size = A at hD ⊢
  have hA : ∀ q : Nat, s.heap.size ≤ q → A q := fun q h => by rw [← hAe]; exact Or.inr h
  have hl := lv_entry ([.ref h0, .int a1, .int a2]) (n := 8) (Nat.le_of_ble_eq_true rfl)
  rw [lg_entry_eq]
  generalize (lg_sl ([.ref h0, .int a1, .int a2]) ++ List.replicate (8 - (lg_sl ([.ref h0, .int a1, .int a2])).length) Slot.unset).toArray = ls at hl ⊢
  have hl : lv_has ls 8 [(0, .ref h0), (1, .int a1), (2, .int a2)] := hl
  have key : ∀ (H : Heap) (locs : List Loc), va_P D vwCl (mW cI cZ h0 q S) H → va_S A s.heap H locs → W p l e (headSpec zw_zd_X12_looksAt ({ frames := 3, cells := 0, slots := 0, locals := 69 })).room s m ([.ref h0, .int a1, .int a2] : List Value).toArray below meth c H locs 0 0 (MQ below (va_Qi (fun r S' => Post S' r) (fun (S' : MST) t => va_P D vwCl (mW cI cZ h0 q S') t.heap ∧ va_D A (mW cI cZ h0 q S')) A) ([.ref h0, .int a1, .int a2] : List Value).toArray s 0 0 A) (F0 m 0 ls []) := by
    intro H locs hP hS
    refine lv_aload_n hx hb dX12_looksAt_0 rfl (lv_at hl 0 rfl) ?_
    refine va_get (D := D) (ci := 12) (v := .ref (q 4)) (C := RX12) (T := TX12) (N := 52) hx hb hts (fun _ h => List.mem_cons_of_mem _ (List.mem_append_right _ h)) hown hK hP 0 rfl rfl 4 (by decide) (hts (.fieldLink RX12 19 "TemplateForgeModel" "op" "[I") (List.mem_of_getElem? (i := 1) rfl)) (fun _ h9 => h9) rfl dX12_looksAt_1 ?_
    refine lv_bipush (v := 60) hx hb dX12_looksAt_4 (by decide) ?_
    refine lv_iload_n hx hb dX12_looksAt_6 rfl (lv_at hl 1 rfl) ?_
    refine lv_imul hx hb dX12_looksAt_7 ?_
    refine lv_iload_n hx hb dX12_looksAt_8 rfl (lv_at hl 2 rfl) ?_
    refine lv_iadd hx hb dX12_looksAt_9 ?_
    have hin_1 := h.1
    have h := h.2
    refine va_iald hx hb hK hP 4 0 rfl rfl hin_1 dX12_looksAt_10 ?_
    refine lv_istore_n (lv' := [(3, .int (S 4 ((60 * a1) + a2 : Int32).toNatClampNeg)), (0, .ref h0), (1, .int a1), (2, .int a2)]) hx hb dX12_looksAt_11 rfl hl (by decide) rfl (fun ls hl => ?_)
    refine lv_aload_n hx hb dX12_looksAt_12 rfl (lv_at hl 1 rfl) ?_
    refine va_get (D := D) (ci := 12) (v := .ref (q 5)) (C := RX12) (T := TX12) (N := 52) hx hb hts (fun _ h => List.mem_cons_of_mem _ (List.mem_append_right _ h)) hown hK hP 0 rfl rfl 5 (by decide) (hts (.fieldLink RX12 22 "TemplateForgeModel" "operand" "[I") (List.mem_of_getElem? (i := 2) rfl)) (fun _ h9 => h9) rfl dX12_looksAt_13 ?_
    refine lv_bipush (v := 60) hx hb dX12_looksAt_16 (by decide) ?_
    refine lv_iload_n hx hb dX12_looksAt_18 rfl (lv_at hl 2 rfl) ?_
    refine lv_imul hx hb dX12_looksAt_19 ?_
    refine lv_iload_n hx hb dX12_looksAt_20 rfl (lv_at hl 3 rfl) ?_
    refine lv_iadd hx hb dX12_looksAt_21 ?_
    have hin_2 := h.1
    have h := h.2
    refine va_iald hx hb hK hP 5 0 rfl rfl hin_2 dX12_looksAt_22 ?_
    refine lv_istore (lv' := [(4, .int (S 5 ((60 * a1) + a2 : Int32).toNatClampNeg)), (3, .int (S 4 ((60 * a1) + a2 : Int32).toNatClampNeg)), (0, .ref h0), (1, .int a1), (2, .int a2)]) hx hb dX12_looksAt_23 hl (by decide) rfl (fun ls hl => ?_)
    refine lv_aload_n hx hb dX12_looksAt_25 rfl (lv_at hl 2 rfl) ?_
    refine va_get (D := D) (ci := 12) (v := .ref (q 7)) (C := RX12) (T := TX12) (N := 52) hx hb hts (fun _ h => List.mem_cons_of_mem _ (List.mem_append_right _ h)) hown hK hP 0 rfl rfl 7 (by decide) (hts (.fieldLink RX12 29 "TemplateForgeModel" "depths" "[I") (List.mem_of_getElem? (i := 3) rfl)) (fun _ h9 => h9) rfl dX12_looksAt_26 ?_
    refine lv_bipush (v := 60) hx hb dX12_looksAt_29 (by decide) ?_
    refine lv_iload_n hx hb dX12_looksAt_31 rfl (lv_at hl 3 rfl) ?_
    refine lv_imul hx hb dX12_looksAt_32 ?_
    refine lv_iload_n hx hb dX12_looksAt_33 rfl (lv_at hl 4 rfl) ?_
    refine lv_iadd hx hb dX12_looksAt_34 ?_
    have hin_3 := h.1
    have h := h.2
    refine va_iald hx hb hK hP 7 0 rfl rfl hin_3 dX12_looksAt_35 ?_
    refine lv_istore (lv' := [(5, .int (S 7 ((60 * a1) + a2 : Int32).toNatClampNeg)), (4, .int (S 5 ((60 * a1) + a2 : Int32).toNatClampNeg)), (3, .int (S 4 ((60 * a1) + a2 : Int32).toNatClampNeg)), (0, .ref h0), (1, .int a1), (2, .int a2)]) hx hb dX12_looksAt_36 hl (by decide) rfl (fun ls hl => ?_)
    refine lv_aload_n hx hb dX12_looksAt_38 rfl (lv_at hl 3 rfl) ?_
    refine lv_iload_n hx hb dX12_looksAt_39 rfl (lv_at hl 4 rfl) ?_
    refine lv_iload_n hx hb dX12_looksAt_40 rfl (lv_at hl 2 rfl) ?_
    refine lv_iload hx hb dX12_looksAt_41 (lv_at hl 1 rfl) ?_
    refine vp_callSi (va_Run.run (va_runV (As := [.int a1, .int (S 4 ((60 * a1) + a2 : Int32).toNatClampNeg), .int (S 5 ((60 * a1) + a2 : Int32).toNatClampNeg)]) (rest := []) ⟨hx, hb, hml, hown, hts⟩ (zd_X12_isOperand l D cI cZ cP cF h0 q S a1 (S 4 ((60 * a1) + a2 : Int32).toNatClampNeg) (S 5 ((60 * a1) + a2 : Int32).toNatClampNeg)  _ h) (cwV 3 hts zg_zd_X12_looksAt_zd_X12_isOperand_152 rfl rfl rfl (by decide +kernel) ⟨Nat.le_of_ble_eq_true rfl, Nat.le_of_ble_eq_true rfl⟩) ⟨zBR, va_recv hK hP (ci := 12) (q0 := 0) rfl rfl, fun U hU hW => ⟨rfl, by rw [hU]; exact hP, hE.warm hW⟩⟩ rfl rfl hl.1 rfl (lv_room (Nat.le_of_ble_eq_true rfl)) dX12_looksAt_43 ⟨Nat.le_of_ble_eq_true rfl, Nat.le_of_ble_eq_true rfl⟩)) (fun r4 h => ?_)
    refine lv_if_ne (tgt := 52) hx hb dX12_looksAt_46 (by decide) (fun c_5 => ?_) (fun c_5 => ?_)
    · have h := h.1 c_5
      refine lv_iload hx hb dX12_looksAt_52 (lv_at hl 0 rfl) ?_
      refine lv_aload_n hx hb dX12_looksAt_54 rfl (lv_at hl 3 rfl) ?_
      refine lv_iload_n hx hb dX12_looksAt_55 rfl (lv_at hl 2 rfl) ?_
      refine lv_iload hx hb dX12_looksAt_56 (lv_at hl 1 rfl) ?_
      refine vp_callSi (va_Run.run (va_runV (As := [.int (S 4 ((60 * a1) + a2 : Int32).toNatClampNeg), .int (S 5 ((60 * a1) + a2 : Int32).toNatClampNeg)]) (rest := [.int (S 7 ((60 * a1) + a2 : Int32).toNatClampNeg)]) ⟨hx, hb, hml, hown, hts⟩ (zd_X12_takes l D cI cZ cP cF h0 q S (S 4 ((60 * a1) + a2 : Int32).toNatClampNeg) (S 5 ((60 * a1) + a2 : Int32).toNatClampNeg)  _ h) (cwV 2 hts zg_zd_X12_looksAt_zd_X12_takes_156 rfl rfl rfl (by decide +kernel) ⟨Nat.le_of_ble_eq_true rfl, Nat.le_of_ble_eq_true rfl⟩) ⟨zBR, va_recv hK hP (ci := 12) (q0 := 0) rfl rfl, fun U hU hW => ⟨rfl, by rw [hU]; exact hP, hE.warm hW⟩⟩ rfl rfl hl.1 rfl (lv_room (Nat.le_of_ble_eq_true rfl)) dX12_looksAt_58 ⟨Nat.le_of_ble_eq_true rfl, Nat.le_of_ble_eq_true rfl⟩)) (fun r6 h => ?_)
      refine lv_icmp_ge (tgt := 66) hx hb dX12_looksAt_61 (by decide) (fun c_7 => ?_) (fun c_7 => ?_)
      · have h := h.1 c_7
        refine lv_iload hx hb dX12_looksAt_66 (lv_at hl 0 rfl) ?_
        refine lv_aload_n hx hb dX12_looksAt_68 rfl (lv_at hl 3 rfl) ?_
        refine lv_iload_n hx hb dX12_looksAt_69 rfl (lv_at hl 2 rfl) ?_
        refine lv_iload hx hb dX12_looksAt_70 (lv_at hl 1 rfl) ?_
        refine vp_callSi (va_Run.run (va_runV (As := [.int (S 4 ((60 * a1) + a2 : Int32).toNatClampNeg), .int (S 5 ((60 * a1) + a2 : Int32).toNatClampNeg)]) (rest := [.int (S 7 ((60 * a1) + a2 : Int32).toNatClampNeg)]) ⟨hx, hb, hml, hown, hts⟩ (zd_X12_takes l D cI cZ cP cF h0 q S (S 4 ((60 * a1) + a2 : Int32).toNatClampNeg) (S 5 ((60 * a1) + a2 : Int32).toNatClampNeg)  _ h) (cwV 2 hts zg_zd_X12_looksAt_zd_X12_takes_156 rfl rfl rfl (by decide +kernel) ⟨Nat.le_of_ble_eq_true rfl, Nat.le_of_ble_eq_true rfl⟩) ⟨zBR, va_recv hK hP (ci := 12) (q0 := 0) rfl rfl, fun U hU hW => ⟨rfl, by rw [hU]; exact hP, hE.warm hW⟩⟩ rfl rfl hl.1 rfl (lv_room (Nat.le_of_ble_eq_true rfl)) dX12_looksAt_72 ⟨Nat.le_of_ble_eq_true rfl, Nat.le_of_ble_eq_true rfl⟩)) (fun r8 h => ?_)
        refine lv_isub hx hb dX12_looksAt_75 ?_
        refine lv_iload_n hx hb dX12_looksAt_76 rfl (lv_at hl 2 rfl) ?_
        have hP0 : va_P D vwCl [] H := fun k q h => by simp at h
        refine vp_callSi (va_Run.run (va_runS (As := [.int (S 4 ((60 * a1) + a2 : Int32).toNatClampNeg)]) (rest := [.int ((S 7 ((60 * a1) + a2 : Int32).toNatClampNeg) - r8)]) ⟨hx, hb, hml, hown, hts⟩ (zd_X12_lays l D cI cZ cP cF (S 4 ((60 * a1) + a2 : Int32).toNatClampNeg)  _ h) (va_cwS 1 hts zg_zd_X12_looksAt_zd_X12_lays_160 rfl rfl rfl (by decide +kernel) ⟨Nat.le_of_ble_eq_true rfl, Nat.le_of_ble_eq_true rfl⟩) ⟨zBR, fun U hU hW => ⟨rfl, by rw [hU]; exact hP0, hE.warm hW⟩⟩ rfl rfl hl.1 rfl (lv_room (Nat.le_of_ble_eq_true rfl)) dX12_looksAt_77 ⟨Nat.le_of_ble_eq_true rfl, Nat.le_of_ble_eq_true rfl⟩)) (fun r9 h => ?_)
        refine lv_iadd hx hb dX12_looksAt_80 ?_
        refine lv_istore (lv' := [(6, .int (((S 7 ((60 * a1) + a2 : Int32).toNatClampNeg) - r8) + r9)), (5, .int (S 7 ((60 * a1) + a2 : Int32).toNatClampNeg)), (4, .int (S 5 ((60 * a1) + a2 : Int32).toNatClampNeg)), (3, .int (S 4 ((60 * a1) + a2 : Int32).toNatClampNeg)), (0, .ref h0), (1, .int a1), (2, .int a2)]) hx hb dX12_looksAt_81 hl (by decide) rfl (fun ls hl => ?_)
        refine lv_iload hx hb dX12_looksAt_83 (lv_at hl 0 rfl) ?_
        refine lv_bipush (v := 8) hx hb dX12_looksAt_85 (by decide) ?_
        refine lv_icmp_le (tgt := 92) hx hb dX12_looksAt_87 (by decide) (fun c_10 => ?_) (fun c_10 => ?_)
        · have h := h.1 c_10
          refine lv_iload_n hx hb dX12_looksAt_92 rfl (lv_at hl 3 rfl) ?_
          refine lv_bipush (v := 9) hx hb dX12_looksAt_93 (by decide) ?_
          refine lv_icmp_eq (tgt := 104) hx hb dX12_looksAt_95 (by decide) (fun c_11 => ?_) (fun c_11 => ?_)
          · have h := h.1 c_11
            refine lv_iload hx hb dX12_looksAt_104 (lv_at hl 2 rfl) ?_
            refine lv_i2l (v := (S 5 ((60 * a1) + a2 : Int32).toNatClampNeg : Int32).toInt64) hx hb dX12_looksAt_106 rfl ?_
            refine lv_lconst (v := 0) hx hb dX12_looksAt_107 (by decide) ?_
            refine lv_aload_n hx hb dX12_looksAt_108 rfl (lv_at hl 4 rfl) ?_
            refine va_get (D := D) (ci := 12) (v := .ref (q 3)) (C := RX12) (T := TX12) (N := 52) hx hb hts (fun _ h => List.mem_cons_of_mem _ (List.mem_append_right _ h)) hown hK hP 0 rfl rfl 3 (by decide) (hts (.fieldLink RX12 16 "TemplateForgeModel" "many" "[I") (List.mem_of_getElem? (i := 28) rfl)) (fun _ h9 => h9) rfl dX12_looksAt_109 ?_
            refine lv_iload_n hx hb dX12_looksAt_112 rfl (lv_at hl 5 rfl) ?_
            have hin_12 := h.1
            have h := h.2
            refine va_iald hx hb hK hP 3 0 rfl rfl hin_12 dX12_looksAt_113 ?_
            refine lv_iconst (v := 1) hx hb dX12_looksAt_114 (by decide) ?_
            refine lv_isub hx hb dX12_looksAt_115 ?_
            refine lv_i2l (v := ((S 3 (a1 : Int32).toNatClampNeg) - 1 : Int32).toInt64) hx hb dX12_looksAt_116 rfl ?_
            have hP0 : va_P D vwCl [] H := fun k q h => by simp at h
            refine vp_callSi (va_Run.run (va_runS (As := [.long ((S 5 ((60 * a1) + a2 : Int32).toNatClampNeg : Int32).toInt64), .long 0, .long (((S 3 (a1 : Int32).toNatClampNeg) - 1 : Int32).toInt64)]) (rest := []) ⟨hx, hb, hml, hown, hts⟩ (zd_X12_in l D cI cZ cP cF ((S 5 ((60 * a1) + a2 : Int32).toNatClampNeg : Int32).toInt64) 0 (((S 3 (a1 : Int32).toNatClampNeg) - 1 : Int32).toInt64)  _ h) (va_cwS 3 hts zg_zd_X12_looksAt_zd_X12_in_134 rfl rfl rfl (by decide +kernel) ⟨Nat.le_of_ble_eq_true rfl, Nat.le_of_ble_eq_true rfl⟩) ⟨zBR, fun U hU hW => ⟨rfl, by rw [hU]; exact hP0, hE.warm hW⟩⟩ rfl rfl hl.1 rfl (lv_room (Nat.le_of_ble_eq_true rfl)) dX12_looksAt_117 ⟨Nat.le_of_ble_eq_true rfl, Nat.le_of_ble_eq_true rfl⟩)) (fun r13 h => ?_)
            refine lv_if_ne (tgt := 125) hx hb dX12_looksAt_120 (by decide) (fun c_14 => ?_) (fun c_14 => ?_)
            · have h := h.1 c_14
              refine lv_aload_n hx hb dX12_looksAt_125 rfl (lv_at hl 4 rfl) ?_
              refine lv_iload_n hx hb dX12_looksAt_126 rfl (lv_at hl 5 rfl) ?_
              refine lv_iload hx hb dX12_looksAt_127 (lv_at hl 2 rfl) ?_
              refine lv_iload hx hb dX12_looksAt_129 (lv_at hl 0 rfl) ?_
              have hFc := zm_free hD hS hA
              refine va_calli (va_runV (As := [.int a1, .int (S 5 ((60 * a1) + a2 : Int32).toNatClampNeg), .int (((S 7 ((60 * a1) + a2 : Int32).toNatClampNeg) - r8) + r9)]) (rest := []) ⟨hx, hb, hml, hown, hts⟩ (zd_X12_comesTo l D cI cZ cP cF h0 q S a1 (S 5 ((60 * a1) + a2 : Int32).toNatClampNeg) (((S 7 ((60 * a1) + a2 : Int32).toNatClampNeg) - r8) + r9) H.size _ h) (cwV 3 hts zg_zd_X12_looksAt_zd_X12_comesTo_164 rfl rfl rfl (by decide +kernel) ⟨Nat.le_of_ble_eq_true rfl, Nat.le_of_ble_eq_true rfl⟩) ⟨zBW, va_recv hK hP (ci := 12) (q0 := 0) rfl rfl, fun U hU hW => ⟨rfl, by rw [hU], by rw [hU]; exact hP, hE.warm hW, hD.weaken (fun _ _ _ _ => trivial)⟩⟩ rfl rfl hl.1 rfl (lv_room (Nat.le_of_ble_eq_true rfl)) dX12_looksAt_131 ⟨Nat.le_of_ble_eq_true rfl, Nat.le_of_ble_eq_true rfl⟩) hS (fun q _ h => hFc q h) hFc (fun r15 S15 t H locs ht hvm h hB hz1 hk1 hS => ?_)
              obtain ⟨hP, hD1⟩ := hB
              rw [ht] at hP
              have hD := hD1.weaken (fun k q _ hq => hFc q.1 hq)
              refine lv_istore (lv' := [(7, .int r15), (6, .int (((S 7 ((60 * a1) + a2 : Int32).toNatClampNeg) - r8) + r9)), (5, .int (S 7 ((60 * a1) + a2 : Int32).toNatClampNeg)), (4, .int (S 5 ((60 * a1) + a2 : Int32).toNatClampNeg)), (3, .int (S 4 ((60 * a1) + a2 : Int32).toNatClampNeg)), (0, .ref h0), (1, .int a1), (2, .int a2)]) hx hb dX12_looksAt_134 hl (by decide) rfl (fun ls hl => ?_)
              refine lv_iload hx hb dX12_looksAt_136 (lv_at hl 0 rfl) ?_
              refine lv_if_eq (tgt := 144) hx hb dX12_looksAt_138 (by decide) (fun c_16 => ?_) (fun c_16 => ?_)
              · have h := h.1 c_16
                refine lv_iload_n hx hb dX12_looksAt_144 rfl (lv_at hl 4 rfl) ?_
                refine lv_bipush (v := 9) hx hb dX12_looksAt_145 (by decide) ?_
                refine lv_icmp_eq (tgt := 156) hx hb dX12_looksAt_147 (by decide) (fun c_17 => ?_) (fun c_17 => ?_)
                · have h := h.1 c_17
                  refine lv_iconst (v := 0) hx hb dX12_looksAt_156 (by decide) ?_
                  exact W.iret (v := 0) hx hb hr (fun t ht hW => ⟨⟨_, S15, rfl, h, by rw [ht]; exact hP, hD⟩, hS.F ht⟩) hS.2.2 dX12_looksAt_157
                · have h := h.2 c_17
                  refine lv_iload_n hx hb dX12_looksAt_150 rfl (lv_at hl 4 rfl) ?_
                  refine lv_bipush (v := 12) hx hb dX12_looksAt_151 (by decide) ?_
                  refine lv_icmp_ne (tgt := 158) hx hb dX12_looksAt_153 (by decide) (fun c_18 => ?_) (fun c_18 => ?_)
                  · have h := h.1 c_18
                    refine lv_iload_n hx hb dX12_looksAt_158 rfl (lv_at hl 7 rfl) ?_
                    refine lv_iconst (v := 1) hx hb dX12_looksAt_159 (by decide) ?_
                    refine lv_iadd hx hb dX12_looksAt_160 ?_
                    refine lv_aload_n hx hb dX12_looksAt_161 rfl (lv_at hl 5 rfl) ?_
                    refine va_get (D := D) (ci := 12) (v := .ref (q 3)) (C := RX12) (T := TX12) (N := 52) hx hb hts (fun _ h => List.mem_cons_of_mem _ (List.mem_append_right _ h)) hown hK hP 0 rfl rfl 3 (by decide) (hts (.fieldLink RX12 16 "TemplateForgeModel" "many" "[I") (List.mem_of_getElem? (i := 28) rfl)) (fun _ h9 => h9) rfl dX12_looksAt_162 ?_
                    refine lv_iload_n hx hb dX12_looksAt_165 rfl (lv_at hl 6 rfl) ?_
                    have hin_19 := h.1
                    have h := h.2
                    refine va_iald hx hb hK hP 3 0 rfl rfl hin_19 dX12_looksAt_166 ?_
                    refine lv_icmp_ne (tgt := 174) hx hb dX12_looksAt_167 (by decide) (fun c_20 => ?_) (fun c_20 => ?_)
                    · have h := h.1 c_20
                      refine lv_aload_n hx hb dX12_looksAt_174 rfl (lv_at hl 5 rfl) ?_
                      refine lv_iload_n hx hb dX12_looksAt_175 rfl (lv_at hl 6 rfl) ?_
                      refine lv_iload_n hx hb dX12_looksAt_176 rfl (lv_at hl 7 rfl) ?_
                      refine lv_iconst (v := 1) hx hb dX12_looksAt_177 (by decide) ?_
                      refine lv_iadd hx hb dX12_looksAt_178 ?_
                      refine lv_iload hx hb dX12_looksAt_179 (lv_at hl 1 rfl) ?_
                      have hFc := zm_free hD hS hA
                      refine va_calli (va_runV (As := [.int a1, .int (a2 + 1), .int (((S 7 ((60 * a1) + a2 : Int32).toNatClampNeg) - r8) + r9)]) (rest := []) ⟨hx, hb, hml, hown, hts⟩ (zd_X12_comesTo l D cI cZ cP cF h0 q S15 a1 (a2 + 1) (((S 7 ((60 * a1) + a2 : Int32).toNatClampNeg) - r8) + r9) H.size _ h) (cwV 3 hts zg_zd_X12_looksAt_zd_X12_comesTo_164 rfl rfl rfl (by decide +kernel) ⟨Nat.le_of_ble_eq_true rfl, Nat.le_of_ble_eq_true rfl⟩) ⟨zBW, va_recv hK hP (ci := 12) (q0 := 0) rfl rfl, fun U hU hW => ⟨rfl, by rw [hU], by rw [hU]; exact hP, hE.warm hW, hD.weaken (fun _ _ _ _ => trivial)⟩⟩ rfl rfl hl.1 rfl (lv_room (Nat.le_of_ble_eq_true rfl)) dX12_looksAt_181 ⟨Nat.le_of_ble_eq_true rfl, Nat.le_of_ble_eq_true rfl⟩) hS (fun q _ h => hFc q h) hFc (fun r21 S21 t H locs ht hvm h hB hz1 hk1 hS => ?_)
                      obtain ⟨hP, hD1⟩ := hB
                      rw [ht] at hP
                      have hD := hD1.weaken (fun k q _ hq => hFc q.1 hq)
                      exact W.iret (v := r21) hx hb hr (fun t ht hW => ⟨⟨_, S21, rfl, h, by rw [ht]; exact hP, hD⟩, hS.F ht⟩) hS.2.2 dX12_looksAt_184
                    · have h := h.2 c_20
                      refine lv_iconst (v := 5) hx hb dX12_looksAt_170 (by decide) ?_
                      refine lv_goto (tgt := 184) hx hb dX12_looksAt_171 (by decide) ?_
                      exact W.iret (v := 5) hx hb hr (fun t ht hW => ⟨⟨_, S15, rfl, h, by rw [ht]; exact hP, hD⟩, hS.F ht⟩) hS.2.2 dX12_looksAt_184
                  · have h := h.2 c_18
                    refine lv_iconst (v := 0) hx hb dX12_looksAt_156 (by decide) ?_
                    exact W.iret (v := 0) hx hb hr (fun t ht hW => ⟨⟨_, S15, rfl, h, by rw [ht]; exact hP, hD⟩, hS.F ht⟩) hS.2.2 dX12_looksAt_157
              · have h := h.2 c_16
                refine lv_iload hx hb dX12_looksAt_141 (lv_at hl 0 rfl) ?_
                exact W.iret (v := r15) hx hb hr (fun t ht hW => ⟨⟨_, S15, rfl, h, by rw [ht]; exact hP, hD⟩, hS.F ht⟩) hS.2.2 dX12_looksAt_143
            · have h := h.2 c_14
              refine lv_iconst (v := 4) hx hb dX12_looksAt_123 (by decide) ?_
              exact W.iret (v := 4) hx hb hr (fun t ht hW => ⟨⟨_, S, rfl, h, by rw [ht]; exact hP, hD⟩, hS.F ht⟩) hS.2.2 dX12_looksAt_124
          · have h := h.2 c_11
            refine lv_iload_n hx hb dX12_looksAt_98 rfl (lv_at hl 3 rfl) ?_
            refine lv_bipush (v := 10) hx hb dX12_looksAt_99 (by decide) ?_
            refine lv_icmp_ne (tgt := 144) hx hb dX12_looksAt_101 (by decide) (fun c_22 => ?_) (fun c_22 => ?_)
            · have h := h.1 c_22
              refine lv_iload_n hx hb dX12_looksAt_144 rfl (lv_at hl 3 rfl) ?_
              refine lv_bipush (v := 9) hx hb dX12_looksAt_145 (by decide) ?_
              refine lv_icmp_eq (tgt := 156) hx hb dX12_looksAt_147 (by decide) (fun c_23 => ?_) (fun c_23 => ?_)
              · have h := h.1 c_23
                refine lv_iconst (v := 0) hx hb dX12_looksAt_156 (by decide) ?_
                exact W.iret (v := 0) hx hb hr (fun t ht hW => ⟨⟨_, S, rfl, h, by rw [ht]; exact hP, hD⟩, hS.F ht⟩) hS.2.2 dX12_looksAt_157
              · have h := h.2 c_23
                refine lv_iload_n hx hb dX12_looksAt_150 rfl (lv_at hl 3 rfl) ?_
                refine lv_bipush (v := 12) hx hb dX12_looksAt_151 (by decide) ?_
                refine lv_icmp_ne (tgt := 158) hx hb dX12_looksAt_153 (by decide) (fun c_24 => ?_) (fun c_24 => ?_)
                · have h := h.1 c_24
                  refine lv_iload_n hx hb dX12_looksAt_158 rfl (lv_at hl 6 rfl) ?_
                  refine lv_iconst (v := 1) hx hb dX12_looksAt_159 (by decide) ?_
                  refine lv_iadd hx hb dX12_looksAt_160 ?_
                  refine lv_aload_n hx hb dX12_looksAt_161 rfl (lv_at hl 4 rfl) ?_
                  refine va_get (D := D) (ci := 12) (v := .ref (q 3)) (C := RX12) (T := TX12) (N := 52) hx hb hts (fun _ h => List.mem_cons_of_mem _ (List.mem_append_right _ h)) hown hK hP 0 rfl rfl 3 (by decide) (hts (.fieldLink RX12 16 "TemplateForgeModel" "many" "[I") (List.mem_of_getElem? (i := 28) rfl)) (fun _ h9 => h9) rfl dX12_looksAt_162 ?_
                  refine lv_iload_n hx hb dX12_looksAt_165 rfl (lv_at hl 5 rfl) ?_
                  have hin_25 := h.1
                  have h := h.2
                  refine va_iald hx hb hK hP 3 0 rfl rfl hin_25 dX12_looksAt_166 ?_
                  refine lv_icmp_ne (tgt := 174) hx hb dX12_looksAt_167 (by decide) (fun c_26 => ?_) (fun c_26 => ?_)
                  · have h := h.1 c_26
                    refine lv_aload_n hx hb dX12_looksAt_174 rfl (lv_at hl 4 rfl) ?_
                    refine lv_iload_n hx hb dX12_looksAt_175 rfl (lv_at hl 5 rfl) ?_
                    refine lv_iload_n hx hb dX12_looksAt_176 rfl (lv_at hl 6 rfl) ?_
                    refine lv_iconst (v := 1) hx hb dX12_looksAt_177 (by decide) ?_
                    refine lv_iadd hx hb dX12_looksAt_178 ?_
                    refine lv_iload hx hb dX12_looksAt_179 (lv_at hl 0 rfl) ?_
                    have hFc := zm_free hD hS hA
                    refine va_calli (va_runV (As := [.int a1, .int (a2 + 1), .int (((S 7 ((60 * a1) + a2 : Int32).toNatClampNeg) - r8) + r9)]) (rest := []) ⟨hx, hb, hml, hown, hts⟩ (zd_X12_comesTo l D cI cZ cP cF h0 q S a1 (a2 + 1) (((S 7 ((60 * a1) + a2 : Int32).toNatClampNeg) - r8) + r9) H.size _ h) (cwV 3 hts zg_zd_X12_looksAt_zd_X12_comesTo_164 rfl rfl rfl (by decide +kernel) ⟨Nat.le_of_ble_eq_true rfl, Nat.le_of_ble_eq_true rfl⟩) ⟨zBW, va_recv hK hP (ci := 12) (q0 := 0) rfl rfl, fun U hU hW => ⟨rfl, by rw [hU], by rw [hU]; exact hP, hE.warm hW, hD.weaken (fun _ _ _ _ => trivial)⟩⟩ rfl rfl hl.1 rfl (lv_room (Nat.le_of_ble_eq_true rfl)) dX12_looksAt_181 ⟨Nat.le_of_ble_eq_true rfl, Nat.le_of_ble_eq_true rfl⟩) hS (fun q _ h => hFc q h) hFc (fun r27 S27 t H locs ht hvm h hB hz1 hk1 hS => ?_)
                    obtain ⟨hP, hD1⟩ := hB
                    rw [ht] at hP
                    have hD := hD1.weaken (fun k q _ hq => hFc q.1 hq)
                    exact W.iret (v := r27) hx hb hr (fun t ht hW => ⟨⟨_, S27, rfl, h, by rw [ht]; exact hP, hD⟩, hS.F ht⟩) hS.2.2 dX12_looksAt_184
                  · have h := h.2 c_26
                    refine lv_iconst (v := 5) hx hb dX12_looksAt_170 (by decide) ?_
                    refine lv_goto (tgt := 184) hx hb dX12_looksAt_171 (by decide) ?_
                    exact W.iret (v := 5) hx hb hr (fun t ht hW => ⟨⟨_, S, rfl, h, by rw [ht]; exact hP, hD⟩, hS.F ht⟩) hS.2.2 dX12_looksAt_184
                · have h := h.2 c_24
                  refine lv_iconst (v := 0) hx hb dX12_looksAt_156 (by decide) ?_
                  exact W.iret (v := 0) hx hb hr (fun t ht hW => ⟨⟨_, S, rfl, h, by rw [ht]; exact hP, hD⟩, hS.F ht⟩) hS.2.2 dX12_looksAt_157
            · have h := h.2 c_22
              refine lv_iload hx hb dX12_looksAt_104 (lv_at hl 2 rfl) ?_
              refine lv_i2l (v := (S 5 ((60 * a1) + a2 : Int32).toNatClampNeg : Int32).toInt64) hx hb dX12_looksAt_106 rfl ?_
              refine lv_lconst (v := 0) hx hb dX12_looksAt_107 (by decide) ?_
              refine lv_aload_n hx hb dX12_looksAt_108 rfl (lv_at hl 4 rfl) ?_
              refine va_get (D := D) (ci := 12) (v := .ref (q 3)) (C := RX12) (T := TX12) (N := 52) hx hb hts (fun _ h => List.mem_cons_of_mem _ (List.mem_append_right _ h)) hown hK hP 0 rfl rfl 3 (by decide) (hts (.fieldLink RX12 16 "TemplateForgeModel" "many" "[I") (List.mem_of_getElem? (i := 28) rfl)) (fun _ h9 => h9) rfl dX12_looksAt_109 ?_
              refine lv_iload_n hx hb dX12_looksAt_112 rfl (lv_at hl 5 rfl) ?_
              have hin_28 := h.1
              have h := h.2
              refine va_iald hx hb hK hP 3 0 rfl rfl hin_28 dX12_looksAt_113 ?_
              refine lv_iconst (v := 1) hx hb dX12_looksAt_114 (by decide) ?_
              refine lv_isub hx hb dX12_looksAt_115 ?_
              refine lv_i2l (v := ((S 3 (a1 : Int32).toNatClampNeg) - 1 : Int32).toInt64) hx hb dX12_looksAt_116 rfl ?_
              have hP0 : va_P D vwCl [] H := fun k q h => by simp at h
              refine vp_callSi (va_Run.run (va_runS (As := [.long ((S 5 ((60 * a1) + a2 : Int32).toNatClampNeg : Int32).toInt64), .long 0, .long (((S 3 (a1 : Int32).toNatClampNeg) - 1 : Int32).toInt64)]) (rest := []) ⟨hx, hb, hml, hown, hts⟩ (zd_X12_in l D cI cZ cP cF ((S 5 ((60 * a1) + a2 : Int32).toNatClampNeg : Int32).toInt64) 0 (((S 3 (a1 : Int32).toNatClampNeg) - 1 : Int32).toInt64)  _ h) (va_cwS 3 hts zg_zd_X12_looksAt_zd_X12_in_134 rfl rfl rfl (by decide +kernel) ⟨Nat.le_of_ble_eq_true rfl, Nat.le_of_ble_eq_true rfl⟩) ⟨zBR, fun U hU hW => ⟨rfl, by rw [hU]; exact hP0, hE.warm hW⟩⟩ rfl rfl hl.1 rfl (lv_room (Nat.le_of_ble_eq_true rfl)) dX12_looksAt_117 ⟨Nat.le_of_ble_eq_true rfl, Nat.le_of_ble_eq_true rfl⟩)) (fun r29 h => ?_)
              refine lv_if_ne (tgt := 125) hx hb dX12_looksAt_120 (by decide) (fun c_30 => ?_) (fun c_30 => ?_)
              · have h := h.1 c_30
                refine lv_aload_n hx hb dX12_looksAt_125 rfl (lv_at hl 4 rfl) ?_
                refine lv_iload_n hx hb dX12_looksAt_126 rfl (lv_at hl 5 rfl) ?_
                refine lv_iload hx hb dX12_looksAt_127 (lv_at hl 2 rfl) ?_
                refine lv_iload hx hb dX12_looksAt_129 (lv_at hl 0 rfl) ?_
                have hFc := zm_free hD hS hA
                refine va_calli (va_runV (As := [.int a1, .int (S 5 ((60 * a1) + a2 : Int32).toNatClampNeg), .int (((S 7 ((60 * a1) + a2 : Int32).toNatClampNeg) - r8) + r9)]) (rest := []) ⟨hx, hb, hml, hown, hts⟩ (zd_X12_comesTo l D cI cZ cP cF h0 q S a1 (S 5 ((60 * a1) + a2 : Int32).toNatClampNeg) (((S 7 ((60 * a1) + a2 : Int32).toNatClampNeg) - r8) + r9) H.size _ h) (cwV 3 hts zg_zd_X12_looksAt_zd_X12_comesTo_164 rfl rfl rfl (by decide +kernel) ⟨Nat.le_of_ble_eq_true rfl, Nat.le_of_ble_eq_true rfl⟩) ⟨zBW, va_recv hK hP (ci := 12) (q0 := 0) rfl rfl, fun U hU hW => ⟨rfl, by rw [hU], by rw [hU]; exact hP, hE.warm hW, hD.weaken (fun _ _ _ _ => trivial)⟩⟩ rfl rfl hl.1 rfl (lv_room (Nat.le_of_ble_eq_true rfl)) dX12_looksAt_131 ⟨Nat.le_of_ble_eq_true rfl, Nat.le_of_ble_eq_true rfl⟩) hS (fun q _ h => hFc q h) hFc (fun r31 S31 t H locs ht hvm h hB hz1 hk1 hS => ?_)
                obtain ⟨hP, hD1⟩ := hB
                rw [ht] at hP
                have hD := hD1.weaken (fun k q _ hq => hFc q.1 hq)
                refine lv_istore (lv' := [(7, .int r31), (6, .int (((S 7 ((60 * a1) + a2 : Int32).toNatClampNeg) - r8) + r9)), (5, .int (S 7 ((60 * a1) + a2 : Int32).toNatClampNeg)), (4, .int (S 5 ((60 * a1) + a2 : Int32).toNatClampNeg)), (3, .int (S 4 ((60 * a1) + a2 : Int32).toNatClampNeg)), (0, .ref h0), (1, .int a1), (2, .int a2)]) hx hb dX12_looksAt_134 hl (by decide) rfl (fun ls hl => ?_)
                refine lv_iload hx hb dX12_looksAt_136 (lv_at hl 0 rfl) ?_
                refine lv_if_eq (tgt := 144) hx hb dX12_looksAt_138 (by decide) (fun c_32 => ?_) (fun c_32 => ?_)
                · have h := h.1 c_32
                  refine lv_iload_n hx hb dX12_looksAt_144 rfl (lv_at hl 4 rfl) ?_
                  refine lv_bipush (v := 9) hx hb dX12_looksAt_145 (by decide) ?_
                  refine lv_icmp_eq (tgt := 156) hx hb dX12_looksAt_147 (by decide) (fun c_33 => ?_) (fun c_33 => ?_)
                  · have h := h.1 c_33
                    refine lv_iconst (v := 0) hx hb dX12_looksAt_156 (by decide) ?_
                    exact W.iret (v := 0) hx hb hr (fun t ht hW => ⟨⟨_, S31, rfl, h, by rw [ht]; exact hP, hD⟩, hS.F ht⟩) hS.2.2 dX12_looksAt_157
                  · have h := h.2 c_33
                    refine lv_iload_n hx hb dX12_looksAt_150 rfl (lv_at hl 4 rfl) ?_
                    refine lv_bipush (v := 12) hx hb dX12_looksAt_151 (by decide) ?_
                    refine lv_icmp_ne (tgt := 158) hx hb dX12_looksAt_153 (by decide) (fun c_34 => ?_) (fun c_34 => ?_)
                    · have h := h.1 c_34
                      refine lv_iload_n hx hb dX12_looksAt_158 rfl (lv_at hl 7 rfl) ?_
                      refine lv_iconst (v := 1) hx hb dX12_looksAt_159 (by decide) ?_
                      refine lv_iadd hx hb dX12_looksAt_160 ?_
                      refine lv_aload_n hx hb dX12_looksAt_161 rfl (lv_at hl 5 rfl) ?_
                      refine va_get (D := D) (ci := 12) (v := .ref (q 3)) (C := RX12) (T := TX12) (N := 52) hx hb hts (fun _ h => List.mem_cons_of_mem _ (List.mem_append_right _ h)) hown hK hP 0 rfl rfl 3 (by decide) (hts (.fieldLink RX12 16 "TemplateForgeModel" "many" "[I") (List.mem_of_getElem? (i := 28) rfl)) (fun _ h9 => h9) rfl dX12_looksAt_162 ?_
                      refine lv_iload_n hx hb dX12_looksAt_165 rfl (lv_at hl 6 rfl) ?_
                      have hin_35 := h.1
                      have h := h.2
                      refine va_iald hx hb hK hP 3 0 rfl rfl hin_35 dX12_looksAt_166 ?_
                      refine lv_icmp_ne (tgt := 174) hx hb dX12_looksAt_167 (by decide) (fun c_36 => ?_) (fun c_36 => ?_)
                      · have h := h.1 c_36
                        refine lv_aload_n hx hb dX12_looksAt_174 rfl (lv_at hl 5 rfl) ?_
                        refine lv_iload_n hx hb dX12_looksAt_175 rfl (lv_at hl 6 rfl) ?_
                        refine lv_iload_n hx hb dX12_looksAt_176 rfl (lv_at hl 7 rfl) ?_
                        refine lv_iconst (v := 1) hx hb dX12_looksAt_177 (by decide) ?_
                        refine lv_iadd hx hb dX12_looksAt_178 ?_
                        refine lv_iload hx hb dX12_looksAt_179 (lv_at hl 1 rfl) ?_
                        have hFc := zm_free hD hS hA
                        refine va_calli (va_runV (As := [.int a1, .int (a2 + 1), .int (((S 7 ((60 * a1) + a2 : Int32).toNatClampNeg) - r8) + r9)]) (rest := []) ⟨hx, hb, hml, hown, hts⟩ (zd_X12_comesTo l D cI cZ cP cF h0 q S31 a1 (a2 + 1) (((S 7 ((60 * a1) + a2 : Int32).toNatClampNeg) - r8) + r9) H.size _ h) (cwV 3 hts zg_zd_X12_looksAt_zd_X12_comesTo_164 rfl rfl rfl (by decide +kernel) ⟨Nat.le_of_ble_eq_true rfl, Nat.le_of_ble_eq_true rfl⟩) ⟨zBW, va_recv hK hP (ci := 12) (q0 := 0) rfl rfl, fun U hU hW => ⟨rfl, by rw [hU], by rw [hU]; exact hP, hE.warm hW, hD.weaken (fun _ _ _ _ => trivial)⟩⟩ rfl rfl hl.1 rfl (lv_room (Nat.le_of_ble_eq_true rfl)) dX12_looksAt_181 ⟨Nat.le_of_ble_eq_true rfl, Nat.le_of_ble_eq_true rfl⟩) hS (fun q _ h => hFc q h) hFc (fun r37 S37 t H locs ht hvm h hB hz1 hk1 hS => ?_)
                        obtain ⟨hP, hD1⟩ := hB
                        rw [ht] at hP
                        have hD := hD1.weaken (fun k q _ hq => hFc q.1 hq)
                        exact W.iret (v := r37) hx hb hr (fun t ht hW => ⟨⟨_, S37, rfl, h, by rw [ht]; exact hP, hD⟩, hS.F ht⟩) hS.2.2 dX12_looksAt_184
                      · have h := h.2 c_36
                        refine lv_iconst (v := 5) hx hb dX12_looksAt_170 (by decide) ?_
                        refine lv_goto (tgt := 184) hx hb dX12_looksAt_171 (by decide) ?_
                        exact W.iret (v := 5) hx hb hr (fun t ht hW => ⟨⟨_, S31, rfl, h, by rw [ht]; exact hP, hD⟩, hS.F ht⟩) hS.2.2 dX12_looksAt_184
                    · have h := h.2 c_34
                      refine lv_iconst (v := 0) hx hb dX12_looksAt_156 (by decide) ?_
                      exact W.iret (v := 0) hx hb hr (fun t ht hW => ⟨⟨_, S31, rfl, h, by rw [ht]; exact hP, hD⟩, hS.F ht⟩) hS.2.2 dX12_looksAt_157
                · have h := h.2 c_32
                  refine lv_iload hx hb dX12_looksAt_141 (lv_at hl 0 rfl) ?_
                  exact W.iret (v := r31) hx hb hr (fun t ht hW => ⟨⟨_, S31, rfl, h, by rw [ht]; exact hP, hD⟩, hS.F ht⟩) hS.2.2 dX12_looksAt_143
              · have h := h.2 c_30
                refine lv_iconst (v := 4) hx hb dX12_looksAt_123 (by decide) ?_
                exact W.iret (v := 4) hx hb hr (fun t ht hW => ⟨⟨_, S, rfl, h, by rw [ht]; exact hP, hD⟩, hS.F ht⟩) hS.2.2 dX12_looksAt_124
        · have h := h.2 c_10
          refine lv_iconst (v := 2) hx hb dX12_looksAt_90 (by decide) ?_
          exact W.iret (v := 2) hx hb hr (fun t ht hW => ⟨⟨_, S, rfl, h, by rw [ht]; exact hP, hD⟩, hS.F ht⟩) hS.2.2 dX12_looksAt_91
      · have h := h.2 c_7
        refine lv_iconst (v := 1) hx hb dX12_looksAt_64 (by decide) ?_
        exact W.iret (v := 1) hx hb hr (fun t ht hW => ⟨⟨_, S, rfl, h, by rw [ht]; exact hP, hD⟩, hS.F ht⟩) hS.2.2 dX12_looksAt_65
    · have h := h.2 c_5
      refine lv_bipush (v := 6) hx hb dX12_looksAt_49 (by decide) ?_
      exact W.iret (v := 6) hx hb hr (fun t ht hW => ⟨⟨_, S, rfl, h, by rw [ht]; exact hP, hD⟩, hS.F ht⟩) hS.2.2 dX12_looksAt_51
  exact key _ _ hP va_S.rf
def wl_X12_nextWaiting_2 (S : MST) (K_29 : Prop) (K_21 : Int32 → Prop) (Post : Int32 → Prop) : Nat → Int32 → Int32 → Prop
  | 0, _, _ => False
  | n_2 + 1, x2_1, x2_2 => vp_in x2_1 8 ∧ ((((S 3 (x2_1 : Int32).toNatClampNeg) ≤ x2_2) → ((K_29 ))) ∧ ((¬ ((S 3 (x2_1 : Int32).toNatClampNeg) ≤ x2_2)) → (vp_in x2_2 60 ∧ (((((S 10 (x2_2 : Int32).toNatClampNeg) : Int32) = 0) → (wl_X12_nextWaiting_2 S K_29 K_21 Post n_2 x2_1 (x2_2 + 1))) ∧ ((¬ (((S 10 (x2_2 : Int32).toNatClampNeg) : Int32) = 0)) → ((K_21 x2_2)))))))
def wp_X12_nextWaiting (S : MST) (a1 : Int32) (Post : Int32 → Prop) : Prop :=
  ∃ n_2, wl_X12_nextWaiting_2 S (Post (-1)) (fun x21_2 => Post x21_2) Post n_2 a1 0
def zw_zd_X12_nextWaiting_w0 : List Cond := [.fieldLink RX12 16 "TemplateForgeModel" "many" "[I", .fieldLink RX12 35 "TemplateForgeModel" "waits" "[Z"]
def zw_zd_X12_nextWaiting : List Cond := .code yX12_nextWaiting cX12_nextWaiting 3 (some .int) :: ((zw_zd_X12_nextWaiting_w0) ++ wsX120)
set_option maxHeartbeats 16000000 in
set_option maxRecDepth 100000 in
theorem zd_X12_nextWaiting (l : Launch) (D : va_G) (cI cZ cP cF : Nat) (h0 : Nat) (q : Nat → Nat) (S : MST) (a1 : Int32) (Post : Int32 → Prop) (h : wp_X12_nextWaiting S a1 Post) : Met l yX12_nextWaiting zw_zd_X12_nextWaiting ({ frames := 0, cells := 0, slots := 0, locals := 0 }) (va_Pc [.ref h0, .int a1] (fun U => va_P D vwCl (mW cI cZ h0 q S) U.heap ∧ zE D cI cZ cP cF U)) (vp_Si Post) 0 0 (fun _ => False) := by
  unfold wp_X12_nextWaiting at h
  refine Met.ofW (cc := cX12_nextWaiting) (maxL := 3) (ret := (some .int)) (by decide) rfl ?_
  intro p e s m args below meth c s₁ B hml hv
  obtain ⟨rfl, hP, hE⟩ := hv
  have hx := B.exec
  have hb := B.bytes
  have hr := B.returns
  have hts := atoms_spec (ws := zw_zd_X12_nextWaiting) B.pre
  have hown : s.vm.findClass RX12 = some m.cls := findClass_of_methodNamed B.named
  have hlocks := B.notSynchronized
  have hK := hE.k
  have hl := lv_entry ([.ref h0, .int a1]) (n := 3) (Nat.le_of_ble_eq_true rfl)
  rw [lg_entry_eq]
  generalize (lg_sl ([.ref h0, .int a1]) ++ List.replicate (3 - (lg_sl ([.ref h0, .int a1])).length) Slot.unset).toArray = ls at hl ⊢
  have hl : lv_has ls 3 [(0, .ref h0), (1, .int a1)] := hl
  refine lv_iconst (v := 0) hx hb dX12_nextWaiting_0 (by decide) ?_
  refine lv_istore_n (lv' := [(2, .int 0), (0, .ref h0), (1, .int a1)]) hx hb dX12_nextWaiting_1 rfl hl (by decide) rfl (fun ls hl => ?_)
  have EX_2_29 : ∀ (ls : Array Slot), (Post (-1)) → lv_has ls 3 [] → W p l e (headSpec zw_zd_X12_nextWaiting ({ frames := 0, cells := 0, slots := 0, locals := 0 })).room s m ([.ref h0, .int a1] : List Value).toArray below meth c s.heap [] 0 0 (MQ below (vp_Si Post) ([.ref h0, .int a1] : List Value).toArray s 0 0 (fun _ => False)) (F0 m 29 ls []) := by
    intro  ls h hl
    refine lv_iconst (v := (-1)) hx hb dX12_nextWaiting_29 (by decide) ?_
    exact W.iret (v := (-1)) hx hb hr (fun t ht hW => ⟨_, rfl, h, ht⟩) (fun q h => by cases h) dX12_nextWaiting_30
  have EX_2_21 : ∀ (x21_2 : Int32) (ls : Array Slot), (Post x21_2) → lv_has ls 3 [(2, .int x21_2)] → W p l e (headSpec zw_zd_X12_nextWaiting ({ frames := 0, cells := 0, slots := 0, locals := 0 })).room s m ([.ref h0, .int a1] : List Value).toArray below meth c s.heap [] 0 0 (MQ below (vp_Si Post) ([.ref h0, .int a1] : List Value).toArray s 0 0 (fun _ => False)) (F0 m 21 ls []) := by
    intro x21_2 ls h hl
    refine lv_iload_n hx hb dX12_nextWaiting_21 rfl (lv_at hl 0 rfl) ?_
    exact W.iret (v := x21_2) hx hb hr (fun t ht hW => ⟨_, rfl, h, ht⟩) (fun q h => by cases h) dX12_nextWaiting_22
  have LP_2 : ∀ (n_2 : Nat), ∀ (x2_1 : Int32) (x2_2 : Int32) (ls : Array Slot), wl_X12_nextWaiting_2 S (Post (-1)) (fun x21_2 => Post x21_2) Post n_2 x2_1 x2_2 → lv_has ls 3 [(0, .ref h0), (1, .int x2_1), (2, .int x2_2)] → W p l e (headSpec zw_zd_X12_nextWaiting ({ frames := 0, cells := 0, slots := 0, locals := 0 })).room s m ([.ref h0, .int a1] : List Value).toArray below meth c s.heap [] 0 0 (MQ below (vp_Si Post) ([.ref h0, .int a1] : List Value).toArray s 0 0 (fun _ => False)) (F0 m 2 ls []) := by
    intro n_2
    induction n_2 with
    | zero =>
      intro x2_1 x2_2 ls h hl
      exact False.elim h
    | succ n_2 ih_2 =>
      intro x2_1 x2_2 ls h hl
      unfold wl_X12_nextWaiting_2 at h
      refine lv_iload_n hx hb dX12_nextWaiting_2 rfl (lv_at hl 2 rfl) ?_
      refine lv_aload_n hx hb dX12_nextWaiting_3 rfl (lv_at hl 0 rfl) ?_
      refine va_get (D := D) (ci := 12) (v := .ref (q 3)) (C := RX12) (T := TX12) (N := 52) hx hb hts (fun _ h => List.mem_cons_of_mem _ (List.mem_append_right _ h)) hown hK hP 0 rfl rfl 3 (by decide) (hts (.fieldLink RX12 16 "TemplateForgeModel" "many" "[I") (List.mem_of_getElem? (i := 1) rfl)) (fun _ h9 => h9) rfl dX12_nextWaiting_4 ?_
      refine lv_iload_n hx hb dX12_nextWaiting_7 rfl (lv_at hl 1 rfl) ?_
      have hin_1 := h.1
      have h := h.2
      refine va_iald hx hb hK hP 3 0 rfl rfl hin_1 dX12_nextWaiting_8 ?_
      refine lv_icmp_ge (tgt := 29) hx hb dX12_nextWaiting_9 (by decide) (fun c_2 => ?_) (fun c_2 => ?_)
      · have h := h.1 c_2
        exact EX_2_29  _ h (lv_sub hl [] rfl)
      · have h := h.2 c_2
        refine lv_aload_n hx hb dX12_nextWaiting_12 rfl (lv_at hl 0 rfl) ?_
        refine va_get (D := D) (ci := 12) (v := .ref (q 10)) (C := RX12) (T := TX12) (N := 52) hx hb hts (fun _ h => List.mem_cons_of_mem _ (List.mem_append_right _ h)) hown hK hP 0 rfl rfl 10 (by decide) (hts (.fieldLink RX12 35 "TemplateForgeModel" "waits" "[Z") (List.mem_of_getElem? (i := 2) rfl)) (fun _ h9 => h9) rfl dX12_nextWaiting_13 ?_
        refine lv_iload_n hx hb dX12_nextWaiting_16 rfl (lv_at hl 2 rfl) ?_
        have hin_3 := h.1
        have h := h.2
        refine va_zald hx hb hK hP 9 1 rfl rfl hin_3 dX12_nextWaiting_17 ?_
        refine lv_if_eq (tgt := 23) hx hb dX12_nextWaiting_18 (by decide) (fun c_4 => ?_) (fun c_4 => ?_)
        · have h := h.1 c_4
          refine lv_iinc (v := x2_2 + 1) (lv' := [(2, .int (x2_2 + 1)), (0, .ref h0), (1, .int x2_1)]) hx hb dX12_nextWaiting_23 hl (k := 2) rfl rfl (by decide) rfl (fun ls hl => ?_)
          refine lv_goto (tgt := 2) hx hb dX12_nextWaiting_26 (by decide) ?_
          exact ih_2  x2_1 (x2_2 + 1) _ h (lv_sub hl [1, 2, 0] rfl)
        · have h := h.2 c_4
          exact EX_2_21  x2_2 _ h (lv_sub hl [2] rfl)
  obtain ⟨n_2, h⟩ := h
  exact LP_2 n_2 a1 0 _ h (lv_sub hl [1, 2, 0] rfl)
def wl_X12_look_91 (K_171 : MST → Int32 → Int32 → Prop) (K_155 : MST → Int32 → Prop) (Post : MST → Int32 → Prop) : Nat → MST → Int32 → Int32 → Int32 → Prop
  | 0, _, _, _, _ => False
  | n_91 + 1, S_91, x91_1, x91_3, x91_4 => (((x91_4 : Int32) < 0) → ((K_171 S_91 x91_1 x91_3))) ∧ ((¬ ((x91_4 : Int32) < 0)) → (vp_in x91_4 60 ∧ (∀ S12 : MST, S12 = ms S_91 10 (upd (S_91 10) (x91_4 : Int32).toNatClampNeg (vp_nar .boolean 0)) → (vp_in ((60 * x91_1) + x91_4) 480 ∧ (((((S12 7 ((60 * x91_1) + x91_4 : Int32).toNatClampNeg) : Int32) ≤ x91_3) → (wp_X12_looksAt S12 x91_1 x91_4 (fun S15 r15 => ∀ S16 : MST, S16 = ms S15 9 (fun _ => r15) → (((((S16 9 0) : Int32) = 0) → (wp_X12_nextWaiting S16 x91_1 (fun r18 => wl_X12_look_91 K_171 K_155 Post n_91 S16 x91_1 x91_3 r18))) ∧ ((¬ (((S16 9 0) : Int32) = 0)) → ((K_155 S16 x91_4))))))) ∧ ((¬ (((S12 7 ((60 * x91_1) + x91_4 : Int32).toNatClampNeg) : Int32) ≤ x91_3)) → (vp_in ((60 * x91_1) + x91_4) 480 ∧ (wp_X12_looksAt S12 x91_1 x91_4 (fun S20 r20 => ∀ S21 : MST, S21 = ms S20 9 (fun _ => r20) → (((((S21 9 0) : Int32) = 0) → (wp_X12_nextWaiting S21 x91_1 (fun r23 => wl_X12_look_91 K_171 K_155 Post n_91 S21 x91_1 (S12 7 ((60 * x91_1) + x91_4 : Int32).toNatClampNeg) r23))) ∧ ((¬ (((S21 9 0) : Int32) = 0)) → ((K_155 S21 x91_4)))))))))))))
def wl_X12_look_30 (K_61 : MST → Int32 → Prop) (Post : MST → Int32 → Prop) : Nat → MST → Int32 → Int32 → Prop
  | 0, _, _, _ => False
  | n_30 + 1, S_30, x30_1, x30_2 => ((60 ≤ x30_2) → ((K_61 S_30 x30_1))) ∧ ((¬ (60 ≤ x30_2)) → (vp_in x30_2 60 ∧ (∀ S26 : MST, S26 = ms S_30 10 (upd (S_30 10) (x30_2 : Int32).toNatClampNeg (vp_nar .boolean 0)) → (vp_in ((60 * x30_1) + x30_2) 480 ∧ (∀ S27 : MST, S27 = ms S26 7 (upd (S26 7) ((60 * x30_1) + x30_2 : Int32).toNatClampNeg (-1)) → (wl_X12_look_30 K_61 Post n_30 S27 x30_1 (x30_2 + 1)))))))
def wp_X12_look (S : MST) (a1 : Int32) (Post : MST → Int32 → Prop) : Prop :=
  wp_X12_isMethod S a1 (fun r1 => ((¬ ((r1 : Int32) = 0)) → (vp_in a1 8 ∧ (((((S 6 (a1 : Int32).toNatClampNeg) : Int32) = 0) → (∀ S5 : MST, S5 = ms S 9 (fun _ => 0) → (∃ n_30, wl_X12_look_30 (fun S_61 x61_1 => vp_in x61_1 8 ∧ (((¬ (((S_61 3 (x61_1 : Int32).toNatClampNeg) : Int32) = 0)) → (wp_X12_comesTo S_61 x61_1 0 0 (fun S8 r8 => ∃ n_91, wl_X12_look_91 (fun S_171 x171_1 x171_3 => vp_in x171_1 8 ∧ (∀ S9 : MST, S9 = ms S_171 6 (upd (S_171 6) (x171_1 : Int32).toNatClampNeg (vp_nar .boolean 1)) → (vp_in x171_1 8 ∧ (∀ S10 : MST, S10 = ms S9 8 (upd (S9 8) (x171_1 : Int32).toNatClampNeg x171_3) → (Post S10 x171_3))))) (fun S_155 x155_4 => Post S_155 ((-100) - x155_4)) Post n_91 S8 x61_1 0 0))) ∧ ((((S_61 3 (x61_1 : Int32).toNatClampNeg) : Int32) = 0) → (∀ S24 : MST, S24 = ms S_61 9 (fun _ => 5) → (Post S24 (-100)))))) Post n_30 S5 a1 0))) ∧ ((¬ (((S 6 (a1 : Int32).toNatClampNeg) : Int32) = 0)) → (Post S (-3)))))) ∧ (((r1 : Int32) = 0) → (Post S (-2))))
def zw_zd_X12_look_w0 : List Cond := [.code yX12_isMethod cX12_isMethod 2 (some .boolean), .fieldLink RX12 140 "TemplateForgeModel" "methods" "I", .code yX12_in cX12_in 6 (some .boolean), .methodLink RX12 134 yX12_in, .static yX12_in, .initialized RX12, .methodLink RX12 144 yX12_isMethod, .instanceMethod yX12_isMethod, .selects RX12 yX12_isMethod yX12_isMethod, .fieldLink RX12 25 "TemplateForgeModel" "isLooked" "[Z", .fieldLink RX12 168 "TemplateForgeModel" "fault" "I", .fieldLink RX12 16 "TemplateForgeModel" "many" "[I", .code yX12_comesTo cX12_comesTo 4 (some .int), .fieldLink RX12 29 "TemplateForgeModel" "depths" "[I", .fieldLink RX12 35 "TemplateForgeModel" "waits" "[Z", .methodLink RX12 164 yX12_comesTo]
def zw_zd_X12_look_w1 : List Cond := [.instanceMethod yX12_comesTo, .selects RX12 yX12_comesTo yX12_comesTo, .fieldLink RX12 32 "TemplateForgeModel" "deepest" "[I", .code yX12_looksAt cX12_looksAt 8 (some .int), .fieldLink RX12 19 "TemplateForgeModel" "op" "[I", .fieldLink RX12 22 "TemplateForgeModel" "operand" "[I", .code yX12_isOperand cX12_isOperand 4 (some .boolean), .fieldLink RX12 13 "TemplateForgeModel" "locals" "[I", .constantLong RX12 150 (7), .constantLong RX12 132 (3), .methodLink RX12 152 yX12_isOperand, .instanceMethod yX12_isOperand, .selects RX12 yX12_isOperand yX12_isOperand, .code yX12_takes cX12_takes 3 (some .int), .fieldLink RX12 7 "TemplateForgeModel" "args" "[I", .methodLink RX12 156 yX12_takes]
def zw_zd_X12_look_w2 : List Cond := [.instanceMethod yX12_takes, .selects RX12 yX12_takes yX12_takes, .code yX12_lays cX12_lays 1 (some .int), .methodLink RX12 160 yX12_lays, .static yX12_lays, .methodLink RX12 171 yX12_looksAt, .instanceMethod yX12_looksAt, .selects RX12 yX12_looksAt yX12_looksAt, .code yX12_nextWaiting cX12_nextWaiting 3 (some .int), .methodLink RX12 174 yX12_nextWaiting, .instanceMethod yX12_nextWaiting, .selects RX12 yX12_nextWaiting yX12_nextWaiting]
def zw_zd_X12_look : List Cond := .code yX12_look cX12_look 5 (some .int) :: ((zw_zd_X12_look_w0 ++ (zw_zd_X12_look_w1 ++ (zw_zd_X12_look_w2))) ++ wsX120)
set_option maxRecDepth 100000 in
theorem zg_zd_X12_look_zd_X12_isMethod_144_a : GoodIn zw_zd_X12_look [.methodLink RX12 144 yX12_isMethod, .instanceMethod yX12_isMethod, .selects RX12 yX12_isMethod yX12_isMethod, .initialized RX12] := goodIn_r _ [7, 8, 9, 6] rfl (by decide +kernel)
set_option maxRecDepth 100000 in
theorem zg_zd_X12_look_zd_X12_isMethod_144_c : GoodIn zw_zd_X12_look [.code yX12_isMethod cX12_isMethod 2 (some .boolean)] := goodIn_r _ [1] rfl (by decide +kernel)
set_option maxRecDepth 100000 in
theorem zg_zd_X12_look_zd_X12_isMethod_144_0 : GoodIn zw_zd_X12_look zw_zd_X12_isMethod_w0 := goodIn_r _ [2, 3, 4, 5, 6] rfl (by decide +kernel)
theorem zg_zd_X12_look_zd_X12_isMethod_144 : GoodIn zw_zd_X12_look (wsV RX12 144 RX12 yX12_isMethod zw_zd_X12_isMethod) := goodIn_app zg_zd_X12_look_zd_X12_isMethod_144_a (goodIn_ca (a := (zw_zd_X12_isMethod_w0)) (show GoodIn zw_zd_X12_look (.code yX12_isMethod cX12_isMethod 2 (some .boolean) :: (zw_zd_X12_isMethod_w0)) from goodIn_app zg_zd_X12_look_zd_X12_isMethod_144_c (zg_zd_X12_look_zd_X12_isMethod_144_0)) (fun w h => ⟨(fun _ h => List.mem_cons_of_mem _ (List.mem_append_right _ h)) w h, good_of_word (List.all_eq_true.mp zgw_X12 w h)⟩))
set_option maxRecDepth 100000 in
theorem zg_zd_X12_look_zd_X12_comesTo_164_a : GoodIn zw_zd_X12_look [.methodLink RX12 164 yX12_comesTo, .instanceMethod yX12_comesTo, .selects RX12 yX12_comesTo yX12_comesTo, .initialized RX12] := goodIn_r _ [16, 17, 18, 6] rfl (by decide +kernel)
set_option maxRecDepth 100000 in
theorem zg_zd_X12_look_zd_X12_comesTo_164_c : GoodIn zw_zd_X12_look [.code yX12_comesTo cX12_comesTo 4 (some .int)] := goodIn_r _ [13] rfl (by decide +kernel)
set_option maxRecDepth 100000 in
theorem zg_zd_X12_look_zd_X12_comesTo_164_0 : GoodIn zw_zd_X12_look zw_zd_X12_comesTo_w0 := goodIn_r _ [14, 15] rfl (by decide +kernel)
theorem zg_zd_X12_look_zd_X12_comesTo_164 : GoodIn zw_zd_X12_look (wsV RX12 164 RX12 yX12_comesTo zw_zd_X12_comesTo) := goodIn_app zg_zd_X12_look_zd_X12_comesTo_164_a (goodIn_ca (a := (zw_zd_X12_comesTo_w0)) (show GoodIn zw_zd_X12_look (.code yX12_comesTo cX12_comesTo 4 (some .int) :: (zw_zd_X12_comesTo_w0)) from goodIn_app zg_zd_X12_look_zd_X12_comesTo_164_c (zg_zd_X12_look_zd_X12_comesTo_164_0)) (fun w h => ⟨(fun _ h => List.mem_cons_of_mem _ (List.mem_append_right _ h)) w h, good_of_word (List.all_eq_true.mp zgw_X12 w h)⟩))
set_option maxRecDepth 100000 in
theorem zg_zd_X12_look_zd_X12_looksAt_171_a : GoodIn zw_zd_X12_look [.methodLink RX12 171 yX12_looksAt, .instanceMethod yX12_looksAt, .selects RX12 yX12_looksAt yX12_looksAt, .initialized RX12] := goodIn_r _ [38, 39, 40, 6] rfl (by decide +kernel)
set_option maxRecDepth 100000 in
theorem zg_zd_X12_look_zd_X12_looksAt_171_c : GoodIn zw_zd_X12_look [.code yX12_looksAt cX12_looksAt 8 (some .int)] := goodIn_r _ [20] rfl (by decide +kernel)
set_option maxRecDepth 100000 in
theorem zg_zd_X12_look_zd_X12_looksAt_171_0 : GoodIn zw_zd_X12_look zw_zd_X12_looksAt_w0 := goodIn_r _ [21, 22, 14, 23, 24, 3, 4, 5, 6, 1, 2, 7, 8, 9, 25, 26] rfl (by decide +kernel)
set_option maxRecDepth 100000 in
theorem zg_zd_X12_look_zd_X12_looksAt_171_1 : GoodIn zw_zd_X12_look zw_zd_X12_looksAt_w1 := goodIn_r _ [27, 28, 29, 30, 31, 32, 33, 34, 35, 36, 37, 12, 13, 15, 16, 17] rfl (by decide +kernel)
set_option maxRecDepth 100000 in
theorem zg_zd_X12_look_zd_X12_looksAt_171_2 : GoodIn zw_zd_X12_look zw_zd_X12_looksAt_w2 := goodIn_r _ [18] rfl (by decide +kernel)
theorem zg_zd_X12_look_zd_X12_looksAt_171 : GoodIn zw_zd_X12_look (wsV RX12 171 RX12 yX12_looksAt zw_zd_X12_looksAt) := goodIn_app zg_zd_X12_look_zd_X12_looksAt_171_a (goodIn_ca (a := (zw_zd_X12_looksAt_w0 ++ (zw_zd_X12_looksAt_w1 ++ (zw_zd_X12_looksAt_w2)))) (show GoodIn zw_zd_X12_look (.code yX12_looksAt cX12_looksAt 8 (some .int) :: (zw_zd_X12_looksAt_w0 ++ (zw_zd_X12_looksAt_w1 ++ (zw_zd_X12_looksAt_w2)))) from goodIn_app zg_zd_X12_look_zd_X12_looksAt_171_c (goodIn_app zg_zd_X12_look_zd_X12_looksAt_171_0 (goodIn_app zg_zd_X12_look_zd_X12_looksAt_171_1 (zg_zd_X12_look_zd_X12_looksAt_171_2)))) (fun w h => ⟨(fun _ h => List.mem_cons_of_mem _ (List.mem_append_right _ h)) w h, good_of_word (List.all_eq_true.mp zgw_X12 w h)⟩))
set_option maxRecDepth 100000 in
theorem zg_zd_X12_look_zd_X12_nextWaiting_174_a : GoodIn zw_zd_X12_look [.methodLink RX12 174 yX12_nextWaiting, .instanceMethod yX12_nextWaiting, .selects RX12 yX12_nextWaiting yX12_nextWaiting, .initialized RX12] := goodIn_r _ [42, 43, 44, 6] rfl (by decide +kernel)
set_option maxRecDepth 100000 in
theorem zg_zd_X12_look_zd_X12_nextWaiting_174_c : GoodIn zw_zd_X12_look [.code yX12_nextWaiting cX12_nextWaiting 3 (some .int)] := goodIn_r _ [41] rfl (by decide +kernel)
set_option maxRecDepth 100000 in
theorem zg_zd_X12_look_zd_X12_nextWaiting_174_0 : GoodIn zw_zd_X12_look zw_zd_X12_nextWaiting_w0 := goodIn_r _ [12, 15] rfl (by decide +kernel)
theorem zg_zd_X12_look_zd_X12_nextWaiting_174 : GoodIn zw_zd_X12_look (wsV RX12 174 RX12 yX12_nextWaiting zw_zd_X12_nextWaiting) := goodIn_app zg_zd_X12_look_zd_X12_nextWaiting_174_a (goodIn_ca (a := (zw_zd_X12_nextWaiting_w0)) (show GoodIn zw_zd_X12_look (.code yX12_nextWaiting cX12_nextWaiting 3 (some .int) :: (zw_zd_X12_nextWaiting_w0)) from goodIn_app zg_zd_X12_look_zd_X12_nextWaiting_174_c (zg_zd_X12_look_zd_X12_nextWaiting_174_0)) (fun w h => ⟨(fun _ h => List.mem_cons_of_mem _ (List.mem_append_right _ h)) w h, good_of_word (List.all_eq_true.mp zgw_X12 w h)⟩))
set_option maxHeartbeats 16000000 in
set_option maxRecDepth 100000 in
theorem zd_X12_look (l : Launch) (D : va_G) (cI cZ cP cF : Nat) (h0 : Nat) (q : Nat → Nat) (S : MST) (a1 : Int32) (sz : Nat) (Post : MST → Int32 → Prop) (h : wp_X12_look S a1 Post) : Met l yX12_look zw_zd_X12_look ({ frames := 4, cells := 0, slots := 0, locals := 96 }) (va_Pc [.ref h0, .int a1] (fun U => U.heap.size = sz ∧ va_P D vwCl (mW cI cZ h0 q S) U.heap ∧ zE D cI cZ cP cF U ∧ va_D (fun _ => True) (mW cI cZ h0 q S))) (va_Qi (fun r S' => Post S' r) (fun (S' : MST) t => va_P D vwCl (mW cI cZ h0 q S') t.heap ∧ va_D (va_A (mW cI cZ h0 q S) sz) (mW cI cZ h0 q S')) (va_A (mW cI cZ h0 q S) sz)) 0 0 (va_A (mW cI cZ h0 q S) sz) := by
  unfold wp_X12_look at h
  refine Met.ofW (cc := cX12_look) (maxL := 5) (ret := (some .int)) (by decide) rfl ?_
  intro p e s m args below meth c s₁ B hml hv
  obtain ⟨rfl, hsz, hP, hE, hD0⟩ := hv
  have hx := B.exec
  have hb := B.bytes
  have hr := B.returns
  have hts := atoms_spec (ws := zw_zd_X12_look) B.pre
  have hown : s.vm.findClass RX12 = some m.cls := findClass_of_methodNamed B.named
  have hlocks := B.notSynchronized
  have hK := hE.k
  subst hsz
  have hD := hD0.self (sz := s.heap.size)
  generalize hAe : va_A (mW cI cZ h0 q S) s.heap.size = A at hD ⊢
  have hA : ∀ q : Nat, s.heap.size ≤ q → A q := fun q h => by rw [← hAe]; exact Or.inr h
  have hl := lv_entry ([.ref h0, .int a1]) (n := 5) (Nat.le_of_ble_eq_true rfl)
  rw [lg_entry_eq]
  generalize (lg_sl ([.ref h0, .int a1]) ++ List.replicate (5 - (lg_sl ([.ref h0, .int a1])).length) Slot.unset).toArray = ls at hl ⊢
  have hl : lv_has ls 5 [(0, .ref h0), (1, .int a1)] := hl
  have key : ∀ (H : Heap) (locs : List Loc), va_P D vwCl (mW cI cZ h0 q S) H → va_S A s.heap H locs → W p l e (headSpec zw_zd_X12_look ({ frames := 4, cells := 0, slots := 0, locals := 96 })).room s m ([.ref h0, .int a1] : List Value).toArray below meth c H locs 0 0 (MQ below (va_Qi (fun r S' => Post S' r) (fun (S' : MST) t => va_P D vwCl (mW cI cZ h0 q S') t.heap ∧ va_D A (mW cI cZ h0 q S')) A) ([.ref h0, .int a1] : List Value).toArray s 0 0 A) (F0 m 0 ls []) := by
    intro H locs hP hS
    refine lv_aload_n hx hb dX12_look_0 rfl (lv_at hl 0 rfl) ?_
    refine lv_iload_n hx hb dX12_look_1 rfl (lv_at hl 1 rfl) ?_
    refine vp_callSi (va_Run.run (va_runV (As := [.int a1]) (rest := []) ⟨hx, hb, hml, hown, hts⟩ (zd_X12_isMethod l D cI cZ cP cF h0 q S a1  _ h) (cwV 1 hts zg_zd_X12_look_zd_X12_isMethod_144 rfl rfl rfl (by decide +kernel) ⟨Nat.le_of_ble_eq_true rfl, Nat.le_of_ble_eq_true rfl⟩) ⟨zBR, va_recv hK hP (ci := 12) (q0 := 0) rfl rfl, fun U hU hW => ⟨rfl, by rw [hU]; exact hP, hE.warm hW⟩⟩ rfl rfl hl.1 rfl (lv_room (Nat.le_of_ble_eq_true rfl)) dX12_look_2 ⟨Nat.le_of_ble_eq_true rfl, Nat.le_of_ble_eq_true rfl⟩)) (fun r1 h => ?_)
    refine lv_if_ne (tgt := 11) hx hb dX12_look_5 (by decide) (fun c_2 => ?_) (fun c_2 => ?_)
    · have h := h.1 c_2
      refine lv_aload_n hx hb dX12_look_11 rfl (lv_at hl 0 rfl) ?_
      refine va_get (D := D) (ci := 12) (v := .ref (q 6)) (C := RX12) (T := TX12) (N := 52) hx hb hts (fun _ h => List.mem_cons_of_mem _ (List.mem_append_right _ h)) hown hK hP 0 rfl rfl 6 (by decide) (hts (.fieldLink RX12 25 "TemplateForgeModel" "isLooked" "[Z") (List.mem_of_getElem? (i := 10) rfl)) (fun _ h9 => h9) rfl dX12_look_12 ?_
      refine lv_iload_n hx hb dX12_look_15 rfl (lv_at hl 1 rfl) ?_
      have hin_3 := h.1
      have h := h.2
      refine va_zald hx hb hK hP 6 1 rfl rfl hin_3 dX12_look_16 ?_
      refine lv_if_eq (tgt := 23) hx hb dX12_look_17 (by decide) (fun c_4 => ?_) (fun c_4 => ?_)
      · have h := h.1 c_4
        refine lv_aload_n hx hb dX12_look_23 rfl (lv_at hl 0 rfl) ?_
        refine lv_iconst (v := 0) hx hb dX12_look_24 (by decide) ?_
        refine va_put (D := D) (ci := 12) (v := .int 0) (ty := .int) (C := RX12) (T := TX12) (N := 52) hx hb hts (fun _ h => List.mem_cons_of_mem _ (List.mem_append_right _ h)) tyX12 tyX12_ok nmX12 hown hK hP hD hS 0 rfl rfl 9 (by decide) (hts (.fieldLink RX12 168 "TemplateForgeModel" "fault" "I") (List.mem_of_getElem? (i := 11) rfl)) (fun _ h9 => h9) rfl (by decide +kernel) rfl rfl (Nat.le_of_ble_eq_true rfl) dX12_look_25 (fun H locs hP hD hS => ?_)
        obtain ⟨S5, eS5⟩ : ∃ z, z = ms S 9 (fun _ => 0) := ⟨_, rfl⟩
        have hP : va_P D vwCl (mW cI cZ h0 q S5) H := by rw [eS5]; exact hP
        have hD : va_D A (mW cI cZ h0 q S5) := by rw [eS5]; exact hD
        have h := h S5 eS5
        refine lv_iconst (v := 0) hx hb dX12_look_28 (by decide) ?_
        refine lv_istore_n (lv' := [(2, .int 0), (0, .ref h0), (1, .int a1)]) hx hb dX12_look_29 rfl hl (by decide) rfl (fun ls hl => ?_)
        have EX_30_61 : ∀ (S_61 : MST) (x61_1 : Int32) (H : Heap) (locs : List Loc) (ls : Array Slot), (vp_in x61_1 8 ∧ (((¬ (((S_61 3 (x61_1 : Int32).toNatClampNeg) : Int32) = 0)) → (wp_X12_comesTo S_61 x61_1 0 0 (fun S8 r8 => ∃ n_91, wl_X12_look_91 (fun S_171 x171_1 x171_3 => vp_in x171_1 8 ∧ (∀ S9 : MST, S9 = ms S_171 6 (upd (S_171 6) (x171_1 : Int32).toNatClampNeg (vp_nar .boolean 1)) → (vp_in x171_1 8 ∧ (∀ S10 : MST, S10 = ms S9 8 (upd (S9 8) (x171_1 : Int32).toNatClampNeg x171_3) → (Post S10 x171_3))))) (fun S_155 x155_4 => Post S_155 ((-100) - x155_4)) Post n_91 S8 x61_1 0 0))) ∧ ((((S_61 3 (x61_1 : Int32).toNatClampNeg) : Int32) = 0) → (∀ S24 : MST, S24 = ms S_61 9 (fun _ => 5) → (Post S24 (-100)))))) → va_P D vwCl (mW cI cZ h0 q S_61) H → va_D A (mW cI cZ h0 q S_61) → va_S A s.heap H locs → lv_has ls 5 [(0, .ref h0), (1, .int x61_1)] → W p l e (headSpec zw_zd_X12_look ({ frames := 4, cells := 0, slots := 0, locals := 96 })).room s m ([.ref h0, .int a1] : List Value).toArray below meth c H locs 0 0 (MQ below (va_Qi (fun r S' => Post S' r) (fun (S' : MST) t => va_P D vwCl (mW cI cZ h0 q S') t.heap ∧ va_D A (mW cI cZ h0 q S')) A) ([.ref h0, .int a1] : List Value).toArray s 0 0 A) (F0 m 61 ls []) := by
          intro S_61 x61_1 H locs ls h hP hD hS hl
          refine lv_aload_n hx hb dX12_look_61 rfl (lv_at hl 0 rfl) ?_
          refine va_get (D := D) (ci := 12) (v := .ref (q 3)) (C := RX12) (T := TX12) (N := 52) hx hb hts (fun _ h => List.mem_cons_of_mem _ (List.mem_append_right _ h)) hown hK hP 0 rfl rfl 3 (by decide) (hts (.fieldLink RX12 16 "TemplateForgeModel" "many" "[I") (List.mem_of_getElem? (i := 12) rfl)) (fun _ h9 => h9) rfl dX12_look_62 ?_
          refine lv_iload_n hx hb dX12_look_65 rfl (lv_at hl 1 rfl) ?_
          have hin_6 := h.1
          have h := h.2
          refine va_iald hx hb hK hP 3 0 rfl rfl hin_6 dX12_look_66 ?_
          refine lv_if_ne (tgt := 78) hx hb dX12_look_67 (by decide) (fun c_7 => ?_) (fun c_7 => ?_)
          · have h := h.1 c_7
            refine lv_aload_n hx hb dX12_look_78 rfl (lv_at hl 0 rfl) ?_
            refine lv_iload_n hx hb dX12_look_79 rfl (lv_at hl 1 rfl) ?_
            refine lv_iconst (v := 0) hx hb dX12_look_80 (by decide) ?_
            refine lv_iconst (v := 0) hx hb dX12_look_81 (by decide) ?_
            have hFc := zm_free hD hS hA
            refine va_calli (va_runV (As := [.int x61_1, .int 0, .int 0]) (rest := []) ⟨hx, hb, hml, hown, hts⟩ (zd_X12_comesTo l D cI cZ cP cF h0 q S_61 x61_1 0 0 H.size _ h) (cwV 3 hts zg_zd_X12_look_zd_X12_comesTo_164 rfl rfl rfl (by decide +kernel) ⟨Nat.le_of_ble_eq_true rfl, Nat.le_of_ble_eq_true rfl⟩) ⟨zBW, va_recv hK hP (ci := 12) (q0 := 0) rfl rfl, fun U hU hW => ⟨rfl, by rw [hU], by rw [hU]; exact hP, hE.warm hW, hD.weaken (fun _ _ _ _ => trivial)⟩⟩ rfl rfl hl.1 rfl (lv_room (Nat.le_of_ble_eq_true rfl)) dX12_look_82 ⟨Nat.le_of_ble_eq_true rfl, Nat.le_of_ble_eq_true rfl⟩) hS (fun q _ h => hFc q h) hFc (fun r8 S8 t H locs ht hvm h hB hz1 hk1 hS => ?_)
            obtain ⟨hP, hD1⟩ := hB
            rw [ht] at hP
            have hD := hD1.weaken (fun k q _ hq => hFc q.1 hq)
            refine lv_istore_n (lv' := [(2, .int r8), (0, .ref h0), (1, .int x61_1)]) hx hb dX12_look_85 rfl hl (by decide) rfl (fun ls hl => ?_)
            refine lv_iconst (v := 0) hx hb dX12_look_86 (by decide) ?_
            refine lv_istore_n (lv' := [(3, .int 0), (2, .int r8), (0, .ref h0), (1, .int x61_1)]) hx hb dX12_look_87 rfl hl (by decide) rfl (fun ls hl => ?_)
            refine lv_iconst (v := 0) hx hb dX12_look_88 (by decide) ?_
            refine lv_istore (lv' := [(4, .int 0), (3, .int 0), (2, .int r8), (0, .ref h0), (1, .int x61_1)]) hx hb dX12_look_89 hl (by decide) rfl (fun ls hl => ?_)
            have EX_91_171 : ∀ (S_171 : MST) (x171_1 : Int32) (x171_3 : Int32) (H : Heap) (locs : List Loc) (ls : Array Slot), (vp_in x171_1 8 ∧ (∀ S9 : MST, S9 = ms S_171 6 (upd (S_171 6) (x171_1 : Int32).toNatClampNeg (vp_nar .boolean 1)) → (vp_in x171_1 8 ∧ (∀ S10 : MST, S10 = ms S9 8 (upd (S9 8) (x171_1 : Int32).toNatClampNeg x171_3) → (Post S10 x171_3))))) → va_P D vwCl (mW cI cZ h0 q S_171) H → va_D A (mW cI cZ h0 q S_171) → va_S A s.heap H locs → lv_has ls 5 [(0, .ref h0), (1, .int x171_1), (3, .int x171_3)] → W p l e (headSpec zw_zd_X12_look ({ frames := 4, cells := 0, slots := 0, locals := 96 })).room s m ([.ref h0, .int a1] : List Value).toArray below meth c H locs 0 0 (MQ below (va_Qi (fun r S' => Post S' r) (fun (S' : MST) t => va_P D vwCl (mW cI cZ h0 q S') t.heap ∧ va_D A (mW cI cZ h0 q S')) A) ([.ref h0, .int a1] : List Value).toArray s 0 0 A) (F0 m 171 ls []) := by
              intro S_171 x171_1 x171_3 H locs ls h hP hD hS hl
              refine lv_aload_n hx hb dX12_look_171 rfl (lv_at hl 0 rfl) ?_
              refine va_get (D := D) (ci := 12) (v := .ref (q 6)) (C := RX12) (T := TX12) (N := 52) hx hb hts (fun _ h => List.mem_cons_of_mem _ (List.mem_append_right _ h)) hown hK hP 0 rfl rfl 6 (by decide) (hts (.fieldLink RX12 25 "TemplateForgeModel" "isLooked" "[Z") (List.mem_of_getElem? (i := 10) rfl)) (fun _ h9 => h9) rfl dX12_look_172 ?_
              refine lv_iload_n hx hb dX12_look_175 rfl (lv_at hl 1 rfl) ?_
              refine lv_iconst (v := 1) hx hb dX12_look_176 (by decide) ?_
              have hin_9 := h.1
              have h := h.2
              refine va_zast hx hb hK hP hD hS 6 1 rfl rfl hin_9 dX12_look_177 (fun H locs hP hD hS => ?_)
              obtain ⟨S9, eS9⟩ : ∃ z, z = ms S_171 6 (upd (S_171 6) (x171_1 : Int32).toNatClampNeg (vp_nar .boolean 1)) := ⟨_, rfl⟩
              have hP : va_P D vwCl (mW cI cZ h0 q S9) H := by rw [eS9]; exact hP
              have hD : va_D A (mW cI cZ h0 q S9) := by rw [eS9]; exact hD
              have h := h S9 eS9
              refine lv_aload_n hx hb dX12_look_178 rfl (lv_at hl 0 rfl) ?_
              refine va_get (D := D) (ci := 12) (v := .ref (q 8)) (C := RX12) (T := TX12) (N := 52) hx hb hts (fun _ h => List.mem_cons_of_mem _ (List.mem_append_right _ h)) hown hK hP 0 rfl rfl 8 (by decide) (hts (.fieldLink RX12 32 "TemplateForgeModel" "deepest" "[I") (List.mem_of_getElem? (i := 19) rfl)) (fun _ h9 => h9) rfl dX12_look_179 ?_
              refine lv_iload_n hx hb dX12_look_182 rfl (lv_at hl 1 rfl) ?_
              refine lv_iload_n hx hb dX12_look_183 rfl (lv_at hl 2 rfl) ?_
              have hin_10 := h.1
              have h := h.2
              refine va_iast hx hb hK hP hD hS 8 0 rfl rfl hin_10 dX12_look_184 (fun H locs hP hD hS => ?_)
              obtain ⟨S10, eS10⟩ : ∃ z, z = ms S9 8 (upd (S9 8) (x171_1 : Int32).toNatClampNeg x171_3) := ⟨_, rfl⟩
              have hP : va_P D vwCl (mW cI cZ h0 q S10) H := by rw [eS10]; exact hP
              have hD : va_D A (mW cI cZ h0 q S10) := by rw [eS10]; exact hD
              have h := h S10 eS10
              refine lv_iload_n hx hb dX12_look_185 rfl (lv_at hl 2 rfl) ?_
              exact W.iret (v := x171_3) hx hb hr (fun t ht hW => ⟨⟨_, S10, rfl, h, by rw [ht]; exact hP, hD⟩, hS.F ht⟩) hS.2.2 dX12_look_186
            have EX_91_155 : ∀ (S_155 : MST) (x155_4 : Int32) (H : Heap) (locs : List Loc) (ls : Array Slot), (Post S_155 ((-100) - x155_4)) → va_P D vwCl (mW cI cZ h0 q S_155) H → va_D A (mW cI cZ h0 q S_155) → va_S A s.heap H locs → lv_has ls 5 [(4, .int x155_4)] → W p l e (headSpec zw_zd_X12_look ({ frames := 4, cells := 0, slots := 0, locals := 96 })).room s m ([.ref h0, .int a1] : List Value).toArray below meth c H locs 0 0 (MQ below (va_Qi (fun r S' => Post S' r) (fun (S' : MST) t => va_P D vwCl (mW cI cZ h0 q S') t.heap ∧ va_D A (mW cI cZ h0 q S')) A) ([.ref h0, .int a1] : List Value).toArray s 0 0 A) (F0 m 155 ls []) := by
              intro S_155 x155_4 H locs ls h hP hD hS hl
              refine lv_bipush (v := (-100)) hx hb dX12_look_155 (by decide) ?_
              refine lv_iload hx hb dX12_look_157 (lv_at hl 0 rfl) ?_
              refine lv_isub hx hb dX12_look_159 ?_
              exact W.iret (v := (-100) - x155_4) hx hb hr (fun t ht hW => ⟨⟨_, S_155, rfl, h, by rw [ht]; exact hP, hD⟩, hS.F ht⟩) hS.2.2 dX12_look_160
            have LP_91 : ∀ (n_91 : Nat), ∀ (S_91 : MST) (x91_1 : Int32) (x91_3 : Int32) (x91_4 : Int32) (H : Heap) (locs : List Loc) (ls : Array Slot), wl_X12_look_91 (fun S_171 x171_1 x171_3 => vp_in x171_1 8 ∧ (∀ S9 : MST, S9 = ms S_171 6 (upd (S_171 6) (x171_1 : Int32).toNatClampNeg (vp_nar .boolean 1)) → (vp_in x171_1 8 ∧ (∀ S10 : MST, S10 = ms S9 8 (upd (S9 8) (x171_1 : Int32).toNatClampNeg x171_3) → (Post S10 x171_3))))) (fun S_155 x155_4 => Post S_155 ((-100) - x155_4)) Post n_91 S_91 x91_1 x91_3 x91_4 → va_P D vwCl (mW cI cZ h0 q S_91) H → va_D A (mW cI cZ h0 q S_91) → va_S A s.heap H locs → lv_has ls 5 [(0, .ref h0), (1, .int x91_1), (3, .int x91_3), (4, .int x91_4)] → W p l e (headSpec zw_zd_X12_look ({ frames := 4, cells := 0, slots := 0, locals := 96 })).room s m ([.ref h0, .int a1] : List Value).toArray below meth c H locs 0 0 (MQ below (va_Qi (fun r S' => Post S' r) (fun (S' : MST) t => va_P D vwCl (mW cI cZ h0 q S') t.heap ∧ va_D A (mW cI cZ h0 q S')) A) ([.ref h0, .int a1] : List Value).toArray s 0 0 A) (F0 m 91 ls []) := by
              intro n_91
              induction n_91 with
              | zero =>
                intro S_91 x91_1 x91_3 x91_4 H locs ls h hP hD hS hl
                exact False.elim h
              | succ n_91 ih_91 =>
                intro S_91 x91_1 x91_3 x91_4 H locs ls h hP hD hS hl
                unfold wl_X12_look_91 at h
                refine lv_iload hx hb dX12_look_91 (lv_at hl 3 rfl) ?_
                refine lv_if_lt (tgt := 171) hx hb dX12_look_93 (by decide) (fun c_11 => ?_) (fun c_11 => ?_)
                · have h := h.1 c_11
                  exact EX_91_171  S_91 x91_1 x91_3 H locs _ h hP hD hS (lv_sub hl [0, 1, 2] rfl)
                · have h := h.2 c_11
                  refine lv_aload_n hx hb dX12_look_96 rfl (lv_at hl 0 rfl) ?_
                  refine va_get (D := D) (ci := 12) (v := .ref (q 10)) (C := RX12) (T := TX12) (N := 52) hx hb hts (fun _ h => List.mem_cons_of_mem _ (List.mem_append_right _ h)) hown hK hP 0 rfl rfl 10 (by decide) (hts (.fieldLink RX12 35 "TemplateForgeModel" "waits" "[Z") (List.mem_of_getElem? (i := 15) rfl)) (fun _ h9 => h9) rfl dX12_look_97 ?_
                  refine lv_iload hx hb dX12_look_100 (lv_at hl 3 rfl) ?_
                  refine lv_iconst (v := 0) hx hb dX12_look_102 (by decide) ?_
                  have hin_12 := h.1
                  have h := h.2
                  refine va_zast hx hb hK hP hD hS 9 1 rfl rfl hin_12 dX12_look_103 (fun H locs hP hD hS => ?_)
                  obtain ⟨S12, eS12⟩ : ∃ z, z = ms S_91 10 (upd (S_91 10) (x91_4 : Int32).toNatClampNeg (vp_nar .boolean 0)) := ⟨_, rfl⟩
                  have hP : va_P D vwCl (mW cI cZ h0 q S12) H := by rw [eS12]; exact hP
                  have hD : va_D A (mW cI cZ h0 q S12) := by rw [eS12]; exact hD
                  have h := h S12 eS12
                  refine lv_aload_n hx hb dX12_look_104 rfl (lv_at hl 0 rfl) ?_
                  refine va_get (D := D) (ci := 12) (v := .ref (q 7)) (C := RX12) (T := TX12) (N := 52) hx hb hts (fun _ h => List.mem_cons_of_mem _ (List.mem_append_right _ h)) hown hK hP 0 rfl rfl 7 (by decide) (hts (.fieldLink RX12 29 "TemplateForgeModel" "depths" "[I") (List.mem_of_getElem? (i := 14) rfl)) (fun _ h9 => h9) rfl dX12_look_105 ?_
                  refine lv_bipush (v := 60) hx hb dX12_look_108 (by decide) ?_
                  refine lv_iload_n hx hb dX12_look_110 rfl (lv_at hl 1 rfl) ?_
                  refine lv_imul hx hb dX12_look_111 ?_
                  refine lv_iload hx hb dX12_look_112 (lv_at hl 3 rfl) ?_
                  refine lv_iadd hx hb dX12_look_114 ?_
                  have hin_13 := h.1
                  have h := h.2
                  refine va_iald hx hb hK hP 7 0 rfl rfl hin_13 dX12_look_115 ?_
                  refine lv_iload_n hx hb dX12_look_116 rfl (lv_at hl 2 rfl) ?_
                  refine lv_icmp_le (tgt := 135) hx hb dX12_look_117 (by decide) (fun c_14 => ?_) (fun c_14 => ?_)
                  · have h := h.1 c_14
                    refine lv_iload_n hx hb dX12_look_135 rfl (lv_at hl 2 rfl) ?_
                    refine lv_istore_n (lv' := [(3, .int x91_3), (0, .ref h0), (1, .int x91_1), (4, .int x91_4)]) hx hb dX12_look_136 rfl hl (by decide) rfl (fun ls hl => ?_)
                    refine lv_aload_n hx hb dX12_look_137 rfl (lv_at hl 1 rfl) ?_
                    refine lv_aload_n hx hb dX12_look_138 rfl (lv_at hl 1 rfl) ?_
                    refine lv_iload_n hx hb dX12_look_139 rfl (lv_at hl 2 rfl) ?_
                    refine lv_iload hx hb dX12_look_140 (lv_at hl 3 rfl) ?_
                    have hFc := zm_free hD hS hA
                    refine va_calli (va_runV (As := [.int x91_1, .int x91_4]) (rest := [.ref h0]) ⟨hx, hb, hml, hown, hts⟩ (zd_X12_looksAt l D cI cZ cP cF h0 q S12 x91_1 x91_4 H.size _ h) (cwV 2 hts zg_zd_X12_look_zd_X12_looksAt_171 rfl rfl rfl (by decide +kernel) ⟨Nat.le_of_ble_eq_true rfl, Nat.le_of_ble_eq_true rfl⟩) ⟨zBW, va_recv hK hP (ci := 12) (q0 := 0) rfl rfl, fun U hU hW => ⟨rfl, by rw [hU], by rw [hU]; exact hP, hE.warm hW, hD.weaken (fun _ _ _ _ => trivial)⟩⟩ rfl rfl hl.1 rfl (lv_room (Nat.le_of_ble_eq_true rfl)) dX12_look_142 ⟨Nat.le_of_ble_eq_true rfl, Nat.le_of_ble_eq_true rfl⟩) hS (fun q _ h => hFc q h) hFc (fun r15 S15 t H locs ht hvm h hB hz1 hk1 hS => ?_)
                    obtain ⟨hP, hD1⟩ := hB
                    rw [ht] at hP
                    have hD := hD1.weaken (fun k q _ hq => hFc q.1 hq)
                    refine va_put (D := D) (ci := 12) (v := .int r15) (ty := .int) (C := RX12) (T := TX12) (N := 52) hx hb hts (fun _ h => List.mem_cons_of_mem _ (List.mem_append_right _ h)) tyX12 tyX12_ok nmX12 hown hK hP hD hS 0 rfl rfl 9 (by decide) (hts (.fieldLink RX12 168 "TemplateForgeModel" "fault" "I") (List.mem_of_getElem? (i := 11) rfl)) (fun _ h9 => h9) rfl (by decide +kernel) rfl rfl (Nat.le_of_ble_eq_true rfl) dX12_look_145 (fun H locs hP hD hS => ?_)
                    obtain ⟨S16, eS16⟩ : ∃ z, z = ms S15 9 (fun _ => r15) := ⟨_, rfl⟩
                    have hP : va_P D vwCl (mW cI cZ h0 q S16) H := by rw [eS16]; exact hP
                    have hD : va_D A (mW cI cZ h0 q S16) := by rw [eS16]; exact hD
                    have h := h S16 eS16
                    refine lv_aload_n hx hb dX12_look_148 rfl (lv_at hl 1 rfl) ?_
                    refine va_get (D := D) (ci := 12) (v := .int (S16 9 0)) (C := RX12) (T := TX12) (N := 52) hx hb hts (fun _ h => List.mem_cons_of_mem _ (List.mem_append_right _ h)) hown hK hP 0 rfl rfl 9 (by decide) (hts (.fieldLink RX12 168 "TemplateForgeModel" "fault" "I") (List.mem_of_getElem? (i := 11) rfl)) (fun _ h9 => h9) rfl dX12_look_149 ?_
                    refine lv_if_eq (tgt := 161) hx hb dX12_look_152 (by decide) (fun c_17 => ?_) (fun c_17 => ?_)
                    · have h := h.1 c_17
                      refine lv_aload_n hx hb dX12_look_161 rfl (lv_at hl 1 rfl) ?_
                      refine lv_iload_n hx hb dX12_look_162 rfl (lv_at hl 2 rfl) ?_
                      refine vp_callSi (va_Run.run (va_runV (As := [.int x91_1]) (rest := []) ⟨hx, hb, hml, hown, hts⟩ (zd_X12_nextWaiting l D cI cZ cP cF h0 q S16 x91_1  _ h) (cwV 1 hts zg_zd_X12_look_zd_X12_nextWaiting_174 rfl rfl rfl (by decide +kernel) ⟨Nat.le_of_ble_eq_true rfl, Nat.le_of_ble_eq_true rfl⟩) ⟨zBR, va_recv hK hP (ci := 12) (q0 := 0) rfl rfl, fun U hU hW => ⟨rfl, by rw [hU]; exact hP, hE.warm hW⟩⟩ rfl rfl hl.1 rfl (lv_room (Nat.le_of_ble_eq_true rfl)) dX12_look_163 ⟨Nat.le_of_ble_eq_true rfl, Nat.le_of_ble_eq_true rfl⟩)) (fun r18 h => ?_)
                      refine lv_istore (lv' := [(4, .int r18), (3, .int x91_3), (0, .ref h0), (1, .int x91_1)]) hx hb dX12_look_166 hl (by decide) rfl (fun ls hl => ?_)
                      refine lv_goto (tgt := 91) hx hb dX12_look_168 (by decide) ?_
                      exact ih_91  S16 x91_1 x91_3 r18 H locs _ h hP hD hS (lv_sub hl [2, 3, 1, 0] rfl)
                    · have h := h.2 c_17
                      exact EX_91_155  S16 x91_4 H locs _ h hP hD hS (lv_sub hl [3] rfl)
                  · have h := h.2 c_14
                    refine lv_aload_n hx hb dX12_look_120 rfl (lv_at hl 0 rfl) ?_
                    refine va_get (D := D) (ci := 12) (v := .ref (q 7)) (C := RX12) (T := TX12) (N := 52) hx hb hts (fun _ h => List.mem_cons_of_mem _ (List.mem_append_right _ h)) hown hK hP 0 rfl rfl 7 (by decide) (hts (.fieldLink RX12 29 "TemplateForgeModel" "depths" "[I") (List.mem_of_getElem? (i := 14) rfl)) (fun _ h9 => h9) rfl dX12_look_121 ?_
                    refine lv_bipush (v := 60) hx hb dX12_look_124 (by decide) ?_
                    refine lv_iload_n hx hb dX12_look_126 rfl (lv_at hl 1 rfl) ?_
                    refine lv_imul hx hb dX12_look_127 ?_
                    refine lv_iload hx hb dX12_look_128 (lv_at hl 3 rfl) ?_
                    refine lv_iadd hx hb dX12_look_130 ?_
                    have hin_19 := h.1
                    have h := h.2
                    refine va_iald hx hb hK hP 7 0 rfl rfl hin_19 dX12_look_131 ?_
                    refine lv_goto (tgt := 136) hx hb dX12_look_132 (by decide) ?_
                    refine lv_istore_n (lv' := [(3, .int (S12 7 ((60 * x91_1) + x91_4 : Int32).toNatClampNeg)), (0, .ref h0), (1, .int x91_1), (4, .int x91_4)]) hx hb dX12_look_136 rfl hl (by decide) rfl (fun ls hl => ?_)
                    refine lv_aload_n hx hb dX12_look_137 rfl (lv_at hl 1 rfl) ?_
                    refine lv_aload_n hx hb dX12_look_138 rfl (lv_at hl 1 rfl) ?_
                    refine lv_iload_n hx hb dX12_look_139 rfl (lv_at hl 2 rfl) ?_
                    refine lv_iload hx hb dX12_look_140 (lv_at hl 3 rfl) ?_
                    have hFc := zm_free hD hS hA
                    refine va_calli (va_runV (As := [.int x91_1, .int x91_4]) (rest := [.ref h0]) ⟨hx, hb, hml, hown, hts⟩ (zd_X12_looksAt l D cI cZ cP cF h0 q S12 x91_1 x91_4 H.size _ h) (cwV 2 hts zg_zd_X12_look_zd_X12_looksAt_171 rfl rfl rfl (by decide +kernel) ⟨Nat.le_of_ble_eq_true rfl, Nat.le_of_ble_eq_true rfl⟩) ⟨zBW, va_recv hK hP (ci := 12) (q0 := 0) rfl rfl, fun U hU hW => ⟨rfl, by rw [hU], by rw [hU]; exact hP, hE.warm hW, hD.weaken (fun _ _ _ _ => trivial)⟩⟩ rfl rfl hl.1 rfl (lv_room (Nat.le_of_ble_eq_true rfl)) dX12_look_142 ⟨Nat.le_of_ble_eq_true rfl, Nat.le_of_ble_eq_true rfl⟩) hS (fun q _ h => hFc q h) hFc (fun r20 S20 t H locs ht hvm h hB hz1 hk1 hS => ?_)
                    obtain ⟨hP, hD1⟩ := hB
                    rw [ht] at hP
                    have hD := hD1.weaken (fun k q _ hq => hFc q.1 hq)
                    refine va_put (D := D) (ci := 12) (v := .int r20) (ty := .int) (C := RX12) (T := TX12) (N := 52) hx hb hts (fun _ h => List.mem_cons_of_mem _ (List.mem_append_right _ h)) tyX12 tyX12_ok nmX12 hown hK hP hD hS 0 rfl rfl 9 (by decide) (hts (.fieldLink RX12 168 "TemplateForgeModel" "fault" "I") (List.mem_of_getElem? (i := 11) rfl)) (fun _ h9 => h9) rfl (by decide +kernel) rfl rfl (Nat.le_of_ble_eq_true rfl) dX12_look_145 (fun H locs hP hD hS => ?_)
                    obtain ⟨S21, eS21⟩ : ∃ z, z = ms S20 9 (fun _ => r20) := ⟨_, rfl⟩
                    have hP : va_P D vwCl (mW cI cZ h0 q S21) H := by rw [eS21]; exact hP
                    have hD : va_D A (mW cI cZ h0 q S21) := by rw [eS21]; exact hD
                    have h := h S21 eS21
                    refine lv_aload_n hx hb dX12_look_148 rfl (lv_at hl 1 rfl) ?_
                    refine va_get (D := D) (ci := 12) (v := .int (S21 9 0)) (C := RX12) (T := TX12) (N := 52) hx hb hts (fun _ h => List.mem_cons_of_mem _ (List.mem_append_right _ h)) hown hK hP 0 rfl rfl 9 (by decide) (hts (.fieldLink RX12 168 "TemplateForgeModel" "fault" "I") (List.mem_of_getElem? (i := 11) rfl)) (fun _ h9 => h9) rfl dX12_look_149 ?_
                    refine lv_if_eq (tgt := 161) hx hb dX12_look_152 (by decide) (fun c_22 => ?_) (fun c_22 => ?_)
                    · have h := h.1 c_22
                      refine lv_aload_n hx hb dX12_look_161 rfl (lv_at hl 1 rfl) ?_
                      refine lv_iload_n hx hb dX12_look_162 rfl (lv_at hl 2 rfl) ?_
                      refine vp_callSi (va_Run.run (va_runV (As := [.int x91_1]) (rest := []) ⟨hx, hb, hml, hown, hts⟩ (zd_X12_nextWaiting l D cI cZ cP cF h0 q S21 x91_1  _ h) (cwV 1 hts zg_zd_X12_look_zd_X12_nextWaiting_174 rfl rfl rfl (by decide +kernel) ⟨Nat.le_of_ble_eq_true rfl, Nat.le_of_ble_eq_true rfl⟩) ⟨zBR, va_recv hK hP (ci := 12) (q0 := 0) rfl rfl, fun U hU hW => ⟨rfl, by rw [hU]; exact hP, hE.warm hW⟩⟩ rfl rfl hl.1 rfl (lv_room (Nat.le_of_ble_eq_true rfl)) dX12_look_163 ⟨Nat.le_of_ble_eq_true rfl, Nat.le_of_ble_eq_true rfl⟩)) (fun r23 h => ?_)
                      refine lv_istore (lv' := [(4, .int r23), (3, .int (S12 7 ((60 * x91_1) + x91_4 : Int32).toNatClampNeg)), (0, .ref h0), (1, .int x91_1)]) hx hb dX12_look_166 hl (by decide) rfl (fun ls hl => ?_)
                      refine lv_goto (tgt := 91) hx hb dX12_look_168 (by decide) ?_
                      exact ih_91  S21 x91_1 (S12 7 ((60 * x91_1) + x91_4 : Int32).toNatClampNeg) r23 H locs _ h hP hD hS (lv_sub hl [2, 3, 1, 0] rfl)
                    · have h := h.2 c_22
                      exact EX_91_155  S21 x91_4 H locs _ h hP hD hS (lv_sub hl [3] rfl)
            obtain ⟨n_91, h⟩ := h
            exact LP_91 n_91 S8 x61_1 0 0 H locs _ h hP hD hS (lv_sub hl [3, 4, 1, 0] rfl)
          · have h := h.2 c_7
            refine lv_aload_n hx hb dX12_look_70 rfl (lv_at hl 0 rfl) ?_
            refine lv_iconst (v := 5) hx hb dX12_look_71 (by decide) ?_
            refine va_put (D := D) (ci := 12) (v := .int 5) (ty := .int) (C := RX12) (T := TX12) (N := 52) hx hb hts (fun _ h => List.mem_cons_of_mem _ (List.mem_append_right _ h)) tyX12 tyX12_ok nmX12 hown hK hP hD hS 0 rfl rfl 9 (by decide) (hts (.fieldLink RX12 168 "TemplateForgeModel" "fault" "I") (List.mem_of_getElem? (i := 11) rfl)) (fun _ h9 => h9) rfl (by decide +kernel) rfl rfl (Nat.le_of_ble_eq_true rfl) dX12_look_72 (fun H locs hP hD hS => ?_)
            obtain ⟨S24, eS24⟩ : ∃ z, z = ms S_61 9 (fun _ => 5) := ⟨_, rfl⟩
            have hP : va_P D vwCl (mW cI cZ h0 q S24) H := by rw [eS24]; exact hP
            have hD : va_D A (mW cI cZ h0 q S24) := by rw [eS24]; exact hD
            have h := h S24 eS24
            refine lv_bipush (v := (-100)) hx hb dX12_look_75 (by decide) ?_
            exact W.iret (v := (-100)) hx hb hr (fun t ht hW => ⟨⟨_, S24, rfl, h, by rw [ht]; exact hP, hD⟩, hS.F ht⟩) hS.2.2 dX12_look_77
        have LP_30 : ∀ (n_30 : Nat), ∀ (S_30 : MST) (x30_1 : Int32) (x30_2 : Int32) (H : Heap) (locs : List Loc) (ls : Array Slot), wl_X12_look_30 (fun S_61 x61_1 => vp_in x61_1 8 ∧ (((¬ (((S_61 3 (x61_1 : Int32).toNatClampNeg) : Int32) = 0)) → (wp_X12_comesTo S_61 x61_1 0 0 (fun S8 r8 => ∃ n_91, wl_X12_look_91 (fun S_171 x171_1 x171_3 => vp_in x171_1 8 ∧ (∀ S9 : MST, S9 = ms S_171 6 (upd (S_171 6) (x171_1 : Int32).toNatClampNeg (vp_nar .boolean 1)) → (vp_in x171_1 8 ∧ (∀ S10 : MST, S10 = ms S9 8 (upd (S9 8) (x171_1 : Int32).toNatClampNeg x171_3) → (Post S10 x171_3))))) (fun S_155 x155_4 => Post S_155 ((-100) - x155_4)) Post n_91 S8 x61_1 0 0))) ∧ ((((S_61 3 (x61_1 : Int32).toNatClampNeg) : Int32) = 0) → (∀ S24 : MST, S24 = ms S_61 9 (fun _ => 5) → (Post S24 (-100)))))) Post n_30 S_30 x30_1 x30_2 → va_P D vwCl (mW cI cZ h0 q S_30) H → va_D A (mW cI cZ h0 q S_30) → va_S A s.heap H locs → lv_has ls 5 [(0, .ref h0), (1, .int x30_1), (2, .int x30_2)] → W p l e (headSpec zw_zd_X12_look ({ frames := 4, cells := 0, slots := 0, locals := 96 })).room s m ([.ref h0, .int a1] : List Value).toArray below meth c H locs 0 0 (MQ below (va_Qi (fun r S' => Post S' r) (fun (S' : MST) t => va_P D vwCl (mW cI cZ h0 q S') t.heap ∧ va_D A (mW cI cZ h0 q S')) A) ([.ref h0, .int a1] : List Value).toArray s 0 0 A) (F0 m 30 ls []) := by
          intro n_30
          induction n_30 with
          | zero =>
            intro S_30 x30_1 x30_2 H locs ls h hP hD hS hl
            exact False.elim h
          | succ n_30 ih_30 =>
            intro S_30 x30_1 x30_2 H locs ls h hP hD hS hl
            unfold wl_X12_look_30 at h
            refine lv_iload_n hx hb dX12_look_30 rfl (lv_at hl 2 rfl) ?_
            refine lv_bipush (v := 60) hx hb dX12_look_31 (by decide) ?_
            refine lv_icmp_ge (tgt := 61) hx hb dX12_look_33 (by decide) (fun c_25 => ?_) (fun c_25 => ?_)
            · have h := h.1 c_25
              exact EX_30_61  S_30 x30_1 H locs _ h hP hD hS (lv_sub hl [0, 1] rfl)
            · have h := h.2 c_25
              refine lv_aload_n hx hb dX12_look_36 rfl (lv_at hl 0 rfl) ?_
              refine va_get (D := D) (ci := 12) (v := .ref (q 10)) (C := RX12) (T := TX12) (N := 52) hx hb hts (fun _ h => List.mem_cons_of_mem _ (List.mem_append_right _ h)) hown hK hP 0 rfl rfl 10 (by decide) (hts (.fieldLink RX12 35 "TemplateForgeModel" "waits" "[Z") (List.mem_of_getElem? (i := 15) rfl)) (fun _ h9 => h9) rfl dX12_look_37 ?_
              refine lv_iload_n hx hb dX12_look_40 rfl (lv_at hl 2 rfl) ?_
              refine lv_iconst (v := 0) hx hb dX12_look_41 (by decide) ?_
              have hin_26 := h.1
              have h := h.2
              refine va_zast hx hb hK hP hD hS 9 1 rfl rfl hin_26 dX12_look_42 (fun H locs hP hD hS => ?_)
              obtain ⟨S26, eS26⟩ : ∃ z, z = ms S_30 10 (upd (S_30 10) (x30_2 : Int32).toNatClampNeg (vp_nar .boolean 0)) := ⟨_, rfl⟩
              have hP : va_P D vwCl (mW cI cZ h0 q S26) H := by rw [eS26]; exact hP
              have hD : va_D A (mW cI cZ h0 q S26) := by rw [eS26]; exact hD
              have h := h S26 eS26
              refine lv_aload_n hx hb dX12_look_43 rfl (lv_at hl 0 rfl) ?_
              refine va_get (D := D) (ci := 12) (v := .ref (q 7)) (C := RX12) (T := TX12) (N := 52) hx hb hts (fun _ h => List.mem_cons_of_mem _ (List.mem_append_right _ h)) hown hK hP 0 rfl rfl 7 (by decide) (hts (.fieldLink RX12 29 "TemplateForgeModel" "depths" "[I") (List.mem_of_getElem? (i := 14) rfl)) (fun _ h9 => h9) rfl dX12_look_44 ?_
              refine lv_bipush (v := 60) hx hb dX12_look_47 (by decide) ?_
              refine lv_iload_n hx hb dX12_look_49 rfl (lv_at hl 1 rfl) ?_
              refine lv_imul hx hb dX12_look_50 ?_
              refine lv_iload_n hx hb dX12_look_51 rfl (lv_at hl 2 rfl) ?_
              refine lv_iadd hx hb dX12_look_52 ?_
              refine lv_iconst (v := (-1)) hx hb dX12_look_53 (by decide) ?_
              have hin_27 := h.1
              have h := h.2
              refine va_iast hx hb hK hP hD hS 7 0 rfl rfl hin_27 dX12_look_54 (fun H locs hP hD hS => ?_)
              obtain ⟨S27, eS27⟩ : ∃ z, z = ms S26 7 (upd (S26 7) ((60 * x30_1) + x30_2 : Int32).toNatClampNeg (-1)) := ⟨_, rfl⟩
              have hP : va_P D vwCl (mW cI cZ h0 q S27) H := by rw [eS27]; exact hP
              have hD : va_D A (mW cI cZ h0 q S27) := by rw [eS27]; exact hD
              have h := h S27 eS27
              refine lv_iinc (v := x30_2 + 1) (lv' := [(2, .int (x30_2 + 1)), (0, .ref h0), (1, .int x30_1)]) hx hb dX12_look_55 hl (k := 2) rfl rfl (by decide) rfl (fun ls hl => ?_)
              refine lv_goto (tgt := 30) hx hb dX12_look_58 (by decide) ?_
              exact ih_30  S27 x30_1 (x30_2 + 1) H locs _ h hP hD hS (lv_sub hl [1, 2, 0] rfl)
        obtain ⟨n_30, h⟩ := h
        exact LP_30 n_30 S5 a1 0 H locs _ h hP hD hS (lv_sub hl [1, 2, 0] rfl)
      · have h := h.2 c_4
        refine lv_bipush (v := (-3)) hx hb dX12_look_20 (by decide) ?_
        exact W.iret (v := (-3)) hx hb hr (fun t ht hW => ⟨⟨_, S, rfl, h, by rw [ht]; exact hP, hD⟩, hS.F ht⟩) hS.2.2 dX12_look_22
    · have h := h.2 c_2
      refine lv_bipush (v := (-2)) hx hb dX12_look_8 (by decide) ?_
      exact W.iret (v := (-2)) hx hb hr (fun t ht hW => ⟨⟨_, S, rfl, h, by rw [ht]; exact hP, hD⟩, hS.F ht⟩) hS.2.2 dX12_look_10
  exact key _ _ hP va_S.rf
def wp_X12_lose (S : MST) (a1 : Int32) (Post : MST → Int32 → Prop) : Prop :=
  wp_X12_in ((a1 : Int32).toInt64) 0 3 (fun r1 => ((¬ ((r1 : Int32) = 0)) → (vp_in a1 4 ∧ (vp_in a1 4 ∧ (∀ S4 : MST, S4 = ms S 13 (upd (S 13) (a1 : Int32).toNatClampNeg (-1)) → (Post S4 (S 13 (a1 : Int32).toNatClampNeg)))))) ∧ (((r1 : Int32) = 0) → (Post S (-2))))
def zw_zd_X12_lose_w0 : List Cond := [.constantLong RX12 132 (3), .code yX12_in cX12_in 6 (some .boolean), .methodLink RX12 134 yX12_in, .static yX12_in, .initialized RX12, .fieldLink RX12 44 "TemplateForgeModel" "sizes" "[I"]
def zw_zd_X12_lose : List Cond := .code yX12_lose cX12_lose 3 (some .int) :: ((zw_zd_X12_lose_w0) ++ wsX120)
set_option maxRecDepth 100000 in
theorem zg_zd_X12_lose_zd_X12_in_134_a : GoodIn zw_zd_X12_lose [.methodLink RX12 134 yX12_in, .static yX12_in, .initialized RX12] := goodIn_r _ [3, 4, 5] rfl (by decide +kernel)
set_option maxRecDepth 100000 in
theorem zg_zd_X12_lose_zd_X12_in_134_c : GoodIn zw_zd_X12_lose [.code yX12_in cX12_in 6 (some .boolean)] := goodIn_r _ [2] rfl (by decide +kernel)
theorem zg_zd_X12_lose_zd_X12_in_134 : GoodIn zw_zd_X12_lose (va_wsS RX12 134 yX12_in zw_zd_X12_in) := goodIn_app zg_zd_X12_lose_zd_X12_in_134_a (show GoodIn zw_zd_X12_lose (.code yX12_in cX12_in 6 (some .boolean) :: (([] : List Cond))) from zg_zd_X12_lose_zd_X12_in_134_c)
set_option maxHeartbeats 16000000 in
set_option maxRecDepth 100000 in
theorem zd_X12_lose (l : Launch) (D : va_G) (cI cZ cP cF : Nat) (h0 : Nat) (q : Nat → Nat) (S : MST) (a1 : Int32) (sz : Nat) (Post : MST → Int32 → Prop) (h : wp_X12_lose S a1 Post) : Met l yX12_lose zw_zd_X12_lose ({ frames := 1, cells := 0, slots := 0, locals := 25 }) (va_Pc [.ref h0, .int a1] (fun U => U.heap.size = sz ∧ va_P D vwCl (mW cI cZ h0 q S) U.heap ∧ zE D cI cZ cP cF U ∧ va_D (fun _ => True) (mW cI cZ h0 q S))) (va_Qi (fun r S' => Post S' r) (fun (S' : MST) t => va_P D vwCl (mW cI cZ h0 q S') t.heap ∧ va_D (va_A (mW cI cZ h0 q S) sz) (mW cI cZ h0 q S')) (va_A (mW cI cZ h0 q S) sz)) 0 0 (va_A (mW cI cZ h0 q S) sz) := by
  unfold wp_X12_lose at h
  refine Met.ofW (cc := cX12_lose) (maxL := 3) (ret := (some .int)) (by decide) rfl ?_
  intro p e s m args below meth c s₁ B hml hv
  obtain ⟨rfl, hsz, hP, hE, hD0⟩ := hv
  have hx := B.exec
  have hb := B.bytes
  have hr := B.returns
  have hts := atoms_spec (ws := zw_zd_X12_lose) B.pre
  have hown : s.vm.findClass RX12 = some m.cls := findClass_of_methodNamed B.named
  have hlocks := B.notSynchronized
  have hK := hE.k
  subst hsz
  have hD := hD0.self (sz := s.heap.size)
  generalize hAe : va_A (mW cI cZ h0 q S) s.heap.size = A at hD ⊢
  have hA : ∀ q : Nat, s.heap.size ≤ q → A q := fun q h => by rw [← hAe]; exact Or.inr h
  have hl := lv_entry ([.ref h0, .int a1]) (n := 3) (Nat.le_of_ble_eq_true rfl)
  rw [lg_entry_eq]
  generalize (lg_sl ([.ref h0, .int a1]) ++ List.replicate (3 - (lg_sl ([.ref h0, .int a1])).length) Slot.unset).toArray = ls at hl ⊢
  have hl : lv_has ls 3 [(0, .ref h0), (1, .int a1)] := hl
  have key : ∀ (H : Heap) (locs : List Loc), va_P D vwCl (mW cI cZ h0 q S) H → va_S A s.heap H locs → W p l e (headSpec zw_zd_X12_lose ({ frames := 1, cells := 0, slots := 0, locals := 25 })).room s m ([.ref h0, .int a1] : List Value).toArray below meth c H locs 0 0 (MQ below (va_Qi (fun r S' => Post S' r) (fun (S' : MST) t => va_P D vwCl (mW cI cZ h0 q S') t.heap ∧ va_D A (mW cI cZ h0 q S')) A) ([.ref h0, .int a1] : List Value).toArray s 0 0 A) (F0 m 0 ls []) := by
    intro H locs hP hS
    refine lv_iload_n hx hb dX12_lose_0 rfl (lv_at hl 1 rfl) ?_
    refine lv_i2l (v := (a1 : Int32).toInt64) hx hb dX12_lose_1 rfl ?_
    refine lv_lconst (v := 0) hx hb dX12_lose_2 (by decide) ?_
    refine lv_ldc2 hx hb hown (hts (.constantLong RX12 132 (3)) (List.mem_of_getElem? (i := 1) rfl)) dX12_lose_3 ?_
    have hP0 : va_P D vwCl [] H := fun k q h => by simp at h
    refine vp_callSi (va_Run.run (va_runS (As := [.long ((a1 : Int32).toInt64), .long 0, .long 3]) (rest := []) ⟨hx, hb, hml, hown, hts⟩ (zd_X12_in l D cI cZ cP cF ((a1 : Int32).toInt64) 0 3  _ h) (va_cwS 3 hts zg_zd_X12_lose_zd_X12_in_134 rfl rfl rfl (by decide +kernel) ⟨Nat.le_of_ble_eq_true rfl, Nat.le_of_ble_eq_true rfl⟩) ⟨zBR, fun U hU hW => ⟨rfl, by rw [hU]; exact hP0, hE.warm hW⟩⟩ rfl rfl hl.1 rfl (lv_room (Nat.le_of_ble_eq_true rfl)) dX12_lose_6 ⟨Nat.le_of_ble_eq_true rfl, Nat.le_of_ble_eq_true rfl⟩)) (fun r1 h => ?_)
    refine lv_if_ne (tgt := 15) hx hb dX12_lose_9 (by decide) (fun c_2 => ?_) (fun c_2 => ?_)
    · have h := h.1 c_2
      refine lv_aload_n hx hb dX12_lose_15 rfl (lv_at hl 0 rfl) ?_
      refine va_get (D := D) (ci := 12) (v := .ref (q 13)) (C := RX12) (T := TX12) (N := 52) hx hb hts (fun _ h => List.mem_cons_of_mem _ (List.mem_append_right _ h)) hown hK hP 0 rfl rfl 13 (by decide) (hts (.fieldLink RX12 44 "TemplateForgeModel" "sizes" "[I") (List.mem_of_getElem? (i := 6) rfl)) (fun _ h9 => h9) rfl dX12_lose_16 ?_
      refine lv_iload_n hx hb dX12_lose_19 rfl (lv_at hl 1 rfl) ?_
      have hin_3 := h.1
      have h := h.2
      refine va_iald hx hb hK hP 12 0 rfl rfl hin_3 dX12_lose_20 ?_
      refine lv_istore_n (lv' := [(2, .int (S 13 (a1 : Int32).toNatClampNeg)), (0, .ref h0), (1, .int a1)]) hx hb dX12_lose_21 rfl hl (by decide) rfl (fun ls hl => ?_)
      refine lv_aload_n hx hb dX12_lose_22 rfl (lv_at hl 1 rfl) ?_
      refine va_get (D := D) (ci := 12) (v := .ref (q 13)) (C := RX12) (T := TX12) (N := 52) hx hb hts (fun _ h => List.mem_cons_of_mem _ (List.mem_append_right _ h)) hown hK hP 0 rfl rfl 13 (by decide) (hts (.fieldLink RX12 44 "TemplateForgeModel" "sizes" "[I") (List.mem_of_getElem? (i := 6) rfl)) (fun _ h9 => h9) rfl dX12_lose_23 ?_
      refine lv_iload_n hx hb dX12_lose_26 rfl (lv_at hl 2 rfl) ?_
      refine lv_iconst (v := (-1)) hx hb dX12_lose_27 (by decide) ?_
      have hin_4 := h.1
      have h := h.2
      refine va_iast hx hb hK hP hD hS 12 0 rfl rfl hin_4 dX12_lose_28 (fun H locs hP hD hS => ?_)
      obtain ⟨S4, eS4⟩ : ∃ z, z = ms S 13 (upd (S 13) (a1 : Int32).toNatClampNeg (-1)) := ⟨_, rfl⟩
      have hP : va_P D vwCl (mW cI cZ h0 q S4) H := by rw [eS4]; exact hP
      have hD : va_D A (mW cI cZ h0 q S4) := by rw [eS4]; exact hD
      have h := h S4 eS4
      refine lv_iload_n hx hb dX12_lose_29 rfl (lv_at hl 0 rfl) ?_
      exact W.iret (v := S 13 (a1 : Int32).toNatClampNeg) hx hb hr (fun t ht hW => ⟨⟨_, S4, rfl, h, by rw [ht]; exact hP, hD⟩, hS.F ht⟩) hS.2.2 dX12_lose_30
    · have h := h.2 c_2
      refine lv_bipush (v := (-2)) hx hb dX12_lose_12 (by decide) ?_
      exact W.iret (v := (-2)) hx hb hr (fun t ht hW => ⟨⟨_, S, rfl, h, by rw [ht]; exact hP, hD⟩, hS.F ht⟩) hS.2.2 dX12_lose_14
  exact key _ _ hP va_S.rf
def wp_X12_method (S : MST) (a1 : Int32) (a2 : Int32) (Post : MST → Int32 → Prop) : Prop :=
  wp_X12_in ((a1 : Int32).toInt64) 0 3 (fun r1 => (((r1 : Int32) = 0) → (Post S (-2))) ∧ ((¬ ((r1 : Int32) = 0)) → (wp_X12_in ((a2 : Int32).toInt64) ((a1 : Int32).toInt64) 6 (fun r3 => ((¬ ((r3 : Int32) = 0)) → (((¬ (((S 0 0) : Int32) = 8)) → (vp_in (S 0 0) 8 ∧ (∀ S6 : MST, S6 = ms S 1 (upd (S 1) (S 0 0 : Int32).toNatClampNeg a1) → (vp_in (S6 0 0) 8 ∧ (∀ S7 : MST, S7 = ms S6 2 (upd (S6 2) (S6 0 0 : Int32).toNatClampNeg a2) → (∀ S8 : MST, S8 = ms S7 0 (fun _ => (S7 0 0) + 1) → (Post S8 ((S8 0 0) - 1)))))))) ∧ ((((S 0 0) : Int32) = 8) → (Post S (-4))))) ∧ (((r3 : Int32) = 0) → (Post S (-2)))))))
def zw_zd_X12_method_w0 : List Cond := [.constantLong RX12 132 (3), .code yX12_in cX12_in 6 (some .boolean), .methodLink RX12 134 yX12_in, .static yX12_in, .initialized RX12, .constantLong RX12 138 (6), .fieldLink RX12 140 "TemplateForgeModel" "methods" "I", .fieldLink RX12 7 "TemplateForgeModel" "args" "[I", .fieldLink RX12 13 "TemplateForgeModel" "locals" "[I"]
def zw_zd_X12_method : List Cond := .code yX12_method cX12_method 3 (some .int) :: ((zw_zd_X12_method_w0) ++ wsX120)
set_option maxRecDepth 100000 in
theorem zg_zd_X12_method_zd_X12_in_134_a : GoodIn zw_zd_X12_method [.methodLink RX12 134 yX12_in, .static yX12_in, .initialized RX12] := goodIn_r _ [3, 4, 5] rfl (by decide +kernel)
set_option maxRecDepth 100000 in
theorem zg_zd_X12_method_zd_X12_in_134_c : GoodIn zw_zd_X12_method [.code yX12_in cX12_in 6 (some .boolean)] := goodIn_r _ [2] rfl (by decide +kernel)
theorem zg_zd_X12_method_zd_X12_in_134 : GoodIn zw_zd_X12_method (va_wsS RX12 134 yX12_in zw_zd_X12_in) := goodIn_app zg_zd_X12_method_zd_X12_in_134_a (show GoodIn zw_zd_X12_method (.code yX12_in cX12_in 6 (some .boolean) :: (([] : List Cond))) from zg_zd_X12_method_zd_X12_in_134_c)
set_option maxHeartbeats 16000000 in
set_option maxRecDepth 100000 in
theorem zd_X12_method (l : Launch) (D : va_G) (cI cZ cP cF : Nat) (h0 : Nat) (q : Nat → Nat) (S : MST) (a1 : Int32) (a2 : Int32) (sz : Nat) (Post : MST → Int32 → Prop) (h : wp_X12_method S a1 a2 Post) : Met l yX12_method zw_zd_X12_method ({ frames := 1, cells := 0, slots := 0, locals := 25 }) (va_Pc [.ref h0, .int a1, .int a2] (fun U => U.heap.size = sz ∧ va_P D vwCl (mW cI cZ h0 q S) U.heap ∧ zE D cI cZ cP cF U ∧ va_D (fun _ => True) (mW cI cZ h0 q S))) (va_Qi (fun r S' => Post S' r) (fun (S' : MST) t => va_P D vwCl (mW cI cZ h0 q S') t.heap ∧ va_D (va_A (mW cI cZ h0 q S) sz) (mW cI cZ h0 q S')) (va_A (mW cI cZ h0 q S) sz)) 0 0 (va_A (mW cI cZ h0 q S) sz) := by
  unfold wp_X12_method at h
  refine Met.ofW (cc := cX12_method) (maxL := 3) (ret := (some .int)) (by decide) rfl ?_
  intro p e s m args below meth c s₁ B hml hv
  obtain ⟨rfl, hsz, hP, hE, hD0⟩ := hv
  have hx := B.exec
  have hb := B.bytes
  have hr := B.returns
  have hts := atoms_spec (ws := zw_zd_X12_method) B.pre
  have hown : s.vm.findClass RX12 = some m.cls := findClass_of_methodNamed B.named
  have hlocks := B.notSynchronized
  have hK := hE.k
  subst hsz
  have hD := hD0.self (sz := s.heap.size)
  generalize hAe : va_A (mW cI cZ h0 q S) s.heap.size = A at hD ⊢
  have hA : ∀ q : Nat, s.heap.size ≤ q → A q := fun q h => by rw [← hAe]; exact Or.inr h
  have hl := lv_entry ([.ref h0, .int a1, .int a2]) (n := 3) (Nat.le_of_ble_eq_true rfl)
  rw [lg_entry_eq]
  generalize (lg_sl ([.ref h0, .int a1, .int a2]) ++ List.replicate (3 - (lg_sl ([.ref h0, .int a1, .int a2])).length) Slot.unset).toArray = ls at hl ⊢
  have hl : lv_has ls 3 [(0, .ref h0), (1, .int a1), (2, .int a2)] := hl
  have key : ∀ (H : Heap) (locs : List Loc), va_P D vwCl (mW cI cZ h0 q S) H → va_S A s.heap H locs → W p l e (headSpec zw_zd_X12_method ({ frames := 1, cells := 0, slots := 0, locals := 25 })).room s m ([.ref h0, .int a1, .int a2] : List Value).toArray below meth c H locs 0 0 (MQ below (va_Qi (fun r S' => Post S' r) (fun (S' : MST) t => va_P D vwCl (mW cI cZ h0 q S') t.heap ∧ va_D A (mW cI cZ h0 q S')) A) ([.ref h0, .int a1, .int a2] : List Value).toArray s 0 0 A) (F0 m 0 ls []) := by
    intro H locs hP hS
    refine lv_iload_n hx hb dX12_method_0 rfl (lv_at hl 1 rfl) ?_
    refine lv_i2l (v := (a1 : Int32).toInt64) hx hb dX12_method_1 rfl ?_
    refine lv_lconst (v := 0) hx hb dX12_method_2 (by decide) ?_
    refine lv_ldc2 hx hb hown (hts (.constantLong RX12 132 (3)) (List.mem_of_getElem? (i := 1) rfl)) dX12_method_3 ?_
    have hP0 : va_P D vwCl [] H := fun k q h => by simp at h
    refine vp_callSi (va_Run.run (va_runS (As := [.long ((a1 : Int32).toInt64), .long 0, .long 3]) (rest := []) ⟨hx, hb, hml, hown, hts⟩ (zd_X12_in l D cI cZ cP cF ((a1 : Int32).toInt64) 0 3  _ h) (va_cwS 3 hts zg_zd_X12_method_zd_X12_in_134 rfl rfl rfl (by decide +kernel) ⟨Nat.le_of_ble_eq_true rfl, Nat.le_of_ble_eq_true rfl⟩) ⟨zBR, fun U hU hW => ⟨rfl, by rw [hU]; exact hP0, hE.warm hW⟩⟩ rfl rfl hl.1 rfl (lv_room (Nat.le_of_ble_eq_true rfl)) dX12_method_6 ⟨Nat.le_of_ble_eq_true rfl, Nat.le_of_ble_eq_true rfl⟩)) (fun r1 h => ?_)
    refine lv_if_eq (tgt := 25) hx hb dX12_method_9 (by decide) (fun c_2 => ?_) (fun c_2 => ?_)
    · have h := h.1 c_2
      refine lv_bipush (v := (-2)) hx hb dX12_method_25 (by decide) ?_
      exact W.iret (v := (-2)) hx hb hr (fun t ht hW => ⟨⟨_, S, rfl, h, by rw [ht]; exact hP, hD⟩, hS.F ht⟩) hS.2.2 dX12_method_27
    · have h := h.2 c_2
      refine lv_iload_n hx hb dX12_method_12 rfl (lv_at hl 2 rfl) ?_
      refine lv_i2l (v := (a2 : Int32).toInt64) hx hb dX12_method_13 rfl ?_
      refine lv_iload_n hx hb dX12_method_14 rfl (lv_at hl 1 rfl) ?_
      refine lv_i2l (v := (a1 : Int32).toInt64) hx hb dX12_method_15 rfl ?_
      refine lv_ldc2 hx hb hown (hts (.constantLong RX12 138 (6)) (List.mem_of_getElem? (i := 6) rfl)) dX12_method_16 ?_
      have hP0 : va_P D vwCl [] H := fun k q h => by simp at h
      refine vp_callSi (va_Run.run (va_runS (As := [.long ((a2 : Int32).toInt64), .long ((a1 : Int32).toInt64), .long 6]) (rest := []) ⟨hx, hb, hml, hown, hts⟩ (zd_X12_in l D cI cZ cP cF ((a2 : Int32).toInt64) ((a1 : Int32).toInt64) 6  _ h) (va_cwS 3 hts zg_zd_X12_method_zd_X12_in_134 rfl rfl rfl (by decide +kernel) ⟨Nat.le_of_ble_eq_true rfl, Nat.le_of_ble_eq_true rfl⟩) ⟨zBR, fun U hU hW => ⟨rfl, by rw [hU]; exact hP0, hE.warm hW⟩⟩ rfl rfl hl.1 rfl (lv_room (Nat.le_of_ble_eq_true rfl)) dX12_method_19 ⟨Nat.le_of_ble_eq_true rfl, Nat.le_of_ble_eq_true rfl⟩)) (fun r3 h => ?_)
      refine lv_if_ne (tgt := 28) hx hb dX12_method_22 (by decide) (fun c_4 => ?_) (fun c_4 => ?_)
      · have h := h.1 c_4
        refine lv_aload_n hx hb dX12_method_28 rfl (lv_at hl 0 rfl) ?_
        refine va_get (D := D) (ci := 12) (v := .int (S 0 0)) (C := RX12) (T := TX12) (N := 52) hx hb hts (fun _ h => List.mem_cons_of_mem _ (List.mem_append_right _ h)) hown hK hP 0 rfl rfl 0 (by decide) (hts (.fieldLink RX12 140 "TemplateForgeModel" "methods" "I") (List.mem_of_getElem? (i := 7) rfl)) (fun _ h9 => h9) rfl dX12_method_29 ?_
        refine lv_bipush (v := 8) hx hb dX12_method_32 (by decide) ?_
        refine lv_icmp_ne (tgt := 40) hx hb dX12_method_34 (by decide) (fun c_5 => ?_) (fun c_5 => ?_)
        · have h := h.1 c_5
          refine lv_aload_n hx hb dX12_method_40 rfl (lv_at hl 0 rfl) ?_
          refine va_get (D := D) (ci := 12) (v := .ref (q 1)) (C := RX12) (T := TX12) (N := 52) hx hb hts (fun _ h => List.mem_cons_of_mem _ (List.mem_append_right _ h)) hown hK hP 0 rfl rfl 1 (by decide) (hts (.fieldLink RX12 7 "TemplateForgeModel" "args" "[I") (List.mem_of_getElem? (i := 8) rfl)) (fun _ h9 => h9) rfl dX12_method_41 ?_
          refine lv_aload_n hx hb dX12_method_44 rfl (lv_at hl 0 rfl) ?_
          refine va_get (D := D) (ci := 12) (v := .int (S 0 0)) (C := RX12) (T := TX12) (N := 52) hx hb hts (fun _ h => List.mem_cons_of_mem _ (List.mem_append_right _ h)) hown hK hP 0 rfl rfl 0 (by decide) (hts (.fieldLink RX12 140 "TemplateForgeModel" "methods" "I") (List.mem_of_getElem? (i := 7) rfl)) (fun _ h9 => h9) rfl dX12_method_45 ?_
          refine lv_iload_n hx hb dX12_method_48 rfl (lv_at hl 1 rfl) ?_
          have hin_6 := h.1
          have h := h.2
          refine va_iast hx hb hK hP hD hS 1 0 rfl rfl hin_6 dX12_method_49 (fun H locs hP hD hS => ?_)
          obtain ⟨S6, eS6⟩ : ∃ z, z = ms S 1 (upd (S 1) (S 0 0 : Int32).toNatClampNeg a1) := ⟨_, rfl⟩
          have hP : va_P D vwCl (mW cI cZ h0 q S6) H := by rw [eS6]; exact hP
          have hD : va_D A (mW cI cZ h0 q S6) := by rw [eS6]; exact hD
          have h := h S6 eS6
          refine lv_aload_n hx hb dX12_method_50 rfl (lv_at hl 0 rfl) ?_
          refine va_get (D := D) (ci := 12) (v := .ref (q 2)) (C := RX12) (T := TX12) (N := 52) hx hb hts (fun _ h => List.mem_cons_of_mem _ (List.mem_append_right _ h)) hown hK hP 0 rfl rfl 2 (by decide) (hts (.fieldLink RX12 13 "TemplateForgeModel" "locals" "[I") (List.mem_of_getElem? (i := 9) rfl)) (fun _ h9 => h9) rfl dX12_method_51 ?_
          refine lv_aload_n hx hb dX12_method_54 rfl (lv_at hl 0 rfl) ?_
          refine va_get (D := D) (ci := 12) (v := .int (S6 0 0)) (C := RX12) (T := TX12) (N := 52) hx hb hts (fun _ h => List.mem_cons_of_mem _ (List.mem_append_right _ h)) hown hK hP 0 rfl rfl 0 (by decide) (hts (.fieldLink RX12 140 "TemplateForgeModel" "methods" "I") (List.mem_of_getElem? (i := 7) rfl)) (fun _ h9 => h9) rfl dX12_method_55 ?_
          refine lv_iload_n hx hb dX12_method_58 rfl (lv_at hl 2 rfl) ?_
          have hin_7 := h.1
          have h := h.2
          refine va_iast hx hb hK hP hD hS 2 0 rfl rfl hin_7 dX12_method_59 (fun H locs hP hD hS => ?_)
          obtain ⟨S7, eS7⟩ : ∃ z, z = ms S6 2 (upd (S6 2) (S6 0 0 : Int32).toNatClampNeg a2) := ⟨_, rfl⟩
          have hP : va_P D vwCl (mW cI cZ h0 q S7) H := by rw [eS7]; exact hP
          have hD : va_D A (mW cI cZ h0 q S7) := by rw [eS7]; exact hD
          have h := h S7 eS7
          refine lv_aload_n hx hb dX12_method_60 rfl (lv_at hl 0 rfl) ?_
          refine lv_dup hx hb dX12_method_61 rfl ?_
          refine va_get (D := D) (ci := 12) (v := .int (S7 0 0)) (C := RX12) (T := TX12) (N := 52) hx hb hts (fun _ h => List.mem_cons_of_mem _ (List.mem_append_right _ h)) hown hK hP 0 rfl rfl 0 (by decide) (hts (.fieldLink RX12 140 "TemplateForgeModel" "methods" "I") (List.mem_of_getElem? (i := 7) rfl)) (fun _ h9 => h9) rfl dX12_method_62 ?_
          refine lv_iconst (v := 1) hx hb dX12_method_65 (by decide) ?_
          refine lv_iadd hx hb dX12_method_66 ?_
          refine va_put (D := D) (ci := 12) (v := .int ((S7 0 0) + 1)) (ty := .int) (C := RX12) (T := TX12) (N := 52) hx hb hts (fun _ h => List.mem_cons_of_mem _ (List.mem_append_right _ h)) tyX12 tyX12_ok nmX12 hown hK hP hD hS 0 rfl rfl 0 (by decide) (hts (.fieldLink RX12 140 "TemplateForgeModel" "methods" "I") (List.mem_of_getElem? (i := 7) rfl)) (fun _ h9 => h9) rfl (by decide +kernel) rfl rfl (Nat.le_of_ble_eq_true rfl) dX12_method_67 (fun H locs hP hD hS => ?_)
          obtain ⟨S8, eS8⟩ : ∃ z, z = ms S7 0 (fun _ => (S7 0 0) + 1) := ⟨_, rfl⟩
          have hP : va_P D vwCl (mW cI cZ h0 q S8) H := by rw [eS8]; exact hP
          have hD : va_D A (mW cI cZ h0 q S8) := by rw [eS8]; exact hD
          have h := h S8 eS8
          refine lv_aload_n hx hb dX12_method_70 rfl (lv_at hl 0 rfl) ?_
          refine va_get (D := D) (ci := 12) (v := .int (S8 0 0)) (C := RX12) (T := TX12) (N := 52) hx hb hts (fun _ h => List.mem_cons_of_mem _ (List.mem_append_right _ h)) hown hK hP 0 rfl rfl 0 (by decide) (hts (.fieldLink RX12 140 "TemplateForgeModel" "methods" "I") (List.mem_of_getElem? (i := 7) rfl)) (fun _ h9 => h9) rfl dX12_method_71 ?_
          refine lv_iconst (v := 1) hx hb dX12_method_74 (by decide) ?_
          refine lv_isub hx hb dX12_method_75 ?_
          exact W.iret (v := (S8 0 0) - 1) hx hb hr (fun t ht hW => ⟨⟨_, S8, rfl, h, by rw [ht]; exact hP, hD⟩, hS.F ht⟩) hS.2.2 dX12_method_76
        · have h := h.2 c_5
          refine lv_bipush (v := (-4)) hx hb dX12_method_37 (by decide) ?_
          exact W.iret (v := (-4)) hx hb hr (fun t ht hW => ⟨⟨_, S, rfl, h, by rw [ht]; exact hP, hD⟩, hS.F ht⟩) hS.2.2 dX12_method_39
      · have h := h.2 c_4
        refine lv_bipush (v := (-2)) hx hb dX12_method_25 (by decide) ?_
        exact W.iret (v := (-2)) hx hb hr (fun t ht hW => ⟨⟨_, S, rfl, h, by rw [ht]; exact hP, hD⟩, hS.F ht⟩) hS.2.2 dX12_method_27
  exact key _ _ hP va_S.rf
