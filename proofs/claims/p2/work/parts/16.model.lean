def wp_X12_fault (S : MST) (Post : Int32 → Prop) : Prop :=
  Post (S 9 0)
def zw_zd_X12_fault_w0 : List Cond := [.fieldLink RX12 168 "TemplateForgeModel" "fault" "I"]
def zw_zd_X12_fault : List Cond := .code yX12_fault cX12_fault 1 (some .int) :: ((zw_zd_X12_fault_w0) ++ wsX120)
set_option maxHeartbeats 16000000 in
set_option maxRecDepth 100000 in
theorem zd_X12_fault (l : Launch) (D : va_G) (cI cZ cP cF : Nat) (h0 : Nat) (q : Nat → Nat) (S : MST) (Post : Int32 → Prop) (h : wp_X12_fault S Post) : Met l yX12_fault zw_zd_X12_fault ({ frames := 0, cells := 0, slots := 0, locals := 0 }) (va_Pc [.ref h0] (fun U => va_P D vwCl (mW cI cZ h0 q S) U.heap ∧ zE D cI cZ cP cF U)) (vp_Si Post) 0 0 (fun _ => False) := by
  unfold wp_X12_fault at h
  refine Met.ofW (cc := cX12_fault) (maxL := 1) (ret := (some .int)) (by decide) rfl ?_
  intro p e s m args below meth c s₁ B hml hv
  obtain ⟨rfl, hP, hE⟩ := hv
  have hx := B.exec
  have hb := B.bytes
  have hr := B.returns
  have hts := atoms_spec (ws := zw_zd_X12_fault) B.pre
  have hown : s.vm.findClass RX12 = some m.cls := findClass_of_methodNamed B.named
  have hlocks := B.notSynchronized
  have hK := hE.k
  have hl := lv_entry ([.ref h0]) (n := 1) (Nat.le_of_ble_eq_true rfl)
  rw [lg_entry_eq]
  generalize (lg_sl ([.ref h0]) ++ List.replicate (1 - (lg_sl ([.ref h0])).length) Slot.unset).toArray = ls at hl ⊢
  have hl : lv_has ls 1 [(0, .ref h0)] := hl
  refine lv_aload_n hx hb dX12_fault_0 rfl (lv_at hl 0 rfl) ?_
  refine va_get (D := D) (ci := 12) (v := .int (S 9 0)) (C := RX12) (T := TX12) (N := 52) hx hb hts (fun _ h => List.mem_cons_of_mem _ (List.mem_append_right _ h)) hown hK hP 0 rfl rfl 9 (by decide) (hts (.fieldLink RX12 168 "TemplateForgeModel" "fault" "I") (List.mem_of_getElem? (i := 1) rfl)) (fun _ h9 => h9) rfl dX12_fault_1 ?_
  exact W.iret (v := S 9 0) hx hb hr (fun t ht hW => ⟨_, rfl, h, ht⟩) (fun q h => by cases h) dX12_fault_4
def wp_X12_field (S : MST) (a1 : Int32) (Post : Int32 → Prop) : Prop :=
  wp_X12_in ((a1 : Int32).toInt64) 0 7 (fun r1 => (((r1 : Int32) = 0) → (Post (-2147483648))) ∧ ((¬ ((r1 : Int32) = 0)) → (vp_in a1 8 ∧ (Post (S 12 (a1 : Int32).toNatClampNeg)))))
def zw_zd_X12_field_w0 : List Cond := [.constantLong RX12 150 (7), .code yX12_in cX12_in 6 (some .boolean), .methodLink RX12 134 yX12_in, .static yX12_in, .initialized RX12, .constant RX12 177 (-2147483648), .fieldLink RX12 41 "TemplateForgeModel" "fields" "[I"]
def zw_zd_X12_field : List Cond := .code yX12_field cX12_field 2 (some .int) :: ((zw_zd_X12_field_w0) ++ wsX120)
set_option maxRecDepth 100000 in
theorem zg_zd_X12_field_zd_X12_in_134_a : GoodIn zw_zd_X12_field [.methodLink RX12 134 yX12_in, .static yX12_in, .initialized RX12] := goodIn_r _ [3, 4, 5] (by decide +kernel) (by decide +kernel)
set_option maxRecDepth 100000 in
theorem zg_zd_X12_field_zd_X12_in_134_c : GoodIn zw_zd_X12_field [.code yX12_in cX12_in 6 (some .boolean)] := goodIn_r _ [2] (by decide +kernel) (by decide +kernel)
theorem zg_zd_X12_field_zd_X12_in_134 : GoodIn zw_zd_X12_field (va_wsS RX12 134 yX12_in zw_zd_X12_in) := goodIn_app zg_zd_X12_field_zd_X12_in_134_a (show GoodIn zw_zd_X12_field (.code yX12_in cX12_in 6 (some .boolean) :: (([] : List Cond))) from zg_zd_X12_field_zd_X12_in_134_c)
set_option maxHeartbeats 16000000 in
set_option maxRecDepth 100000 in
theorem zd_X12_field (l : Launch) (D : va_G) (cI cZ cP cF : Nat) (h0 : Nat) (q : Nat → Nat) (S : MST) (a1 : Int32) (Post : Int32 → Prop) (h : wp_X12_field S a1 Post) : Met l yX12_field zw_zd_X12_field ({ frames := 1, cells := 0, slots := 0, locals := 25 }) (va_Pc [.ref h0, .int a1] (fun U => va_P D vwCl (mW cI cZ h0 q S) U.heap ∧ zE D cI cZ cP cF U)) (vp_Si Post) 0 0 (fun _ => False) := by
  unfold wp_X12_field at h
  refine Met.ofW (cc := cX12_field) (maxL := 2) (ret := (some .int)) (by decide) rfl ?_
  intro p e s m args below meth c s₁ B hml hv
  obtain ⟨rfl, hP, hE⟩ := hv
  have hx := B.exec
  have hb := B.bytes
  have hr := B.returns
  have hts := atoms_spec (ws := zw_zd_X12_field) B.pre
  have hown : s.vm.findClass RX12 = some m.cls := findClass_of_methodNamed B.named
  have hlocks := B.notSynchronized
  have hK := hE.k
  have hl := lv_entry ([.ref h0, .int a1]) (n := 2) (Nat.le_of_ble_eq_true rfl)
  rw [lg_entry_eq]
  generalize (lg_sl ([.ref h0, .int a1]) ++ List.replicate (2 - (lg_sl ([.ref h0, .int a1])).length) Slot.unset).toArray = ls at hl ⊢
  have hl : lv_has ls 2 [(0, .ref h0), (1, .int a1)] := hl
  refine lv_iload_n hx hb dX12_field_0 rfl (lv_at hl 1 rfl) ?_
  refine lv_i2l (v := (a1 : Int32).toInt64) hx hb dX12_field_1 rfl ?_
  refine lv_lconst (v := 0) hx hb dX12_field_2 (by decide) ?_
  refine lv_ldc2 hx hb hown (hts (.constantLong RX12 150 (7)) (List.mem_of_getElem? (i := 1) rfl)) dX12_field_3 ?_
  have hP0 : va_P D vwCl [] s.heap := fun k q h => by simp at h
  refine vp_callSi (va_Run.run (va_runS (As := [.long ((a1 : Int32).toInt64), .long 0, .long 7]) (rest := []) ⟨hx, hb, hml, hown, hts⟩ (zd_X12_in l D cI cZ cP cF ((a1 : Int32).toInt64) 0 7  _ h) (va_cwS 3 hts zg_zd_X12_field_zd_X12_in_134 rfl rfl rfl (by decide +kernel) ⟨Nat.le_of_ble_eq_true rfl, Nat.le_of_ble_eq_true rfl⟩) ⟨zBR, fun U hU hW => ⟨rfl, by rw [hU]; exact hP0, hE.warm hW⟩⟩ rfl rfl hl.1 rfl (lv_room (Nat.le_of_ble_eq_true rfl)) dX12_field_6 ⟨Nat.le_of_ble_eq_true rfl, Nat.le_of_ble_eq_true rfl⟩)) (fun r1 h => ?_)
  refine lv_if_eq (tgt := 21) hx hb dX12_field_9 (by decide) (fun c_2 => ?_) (fun c_2 => ?_)
  · have h := h.1 c_2
    refine lv_ldc hx hb hown (hts (.constant RX12 177 (-2147483648)) (List.mem_of_getElem? (i := 6) rfl)) dX12_field_21 ?_
    exact W.iret (v := (-2147483648)) hx hb hr (fun t ht hW => ⟨_, rfl, h, ht⟩) (fun q h => by cases h) dX12_field_23
  · have h := h.2 c_2
    refine lv_aload_n hx hb dX12_field_12 rfl (lv_at hl 0 rfl) ?_
    refine va_get (D := D) (ci := 12) (v := .ref (q 12)) (C := RX12) (T := TX12) (N := 52) hx hb hts (fun _ h => List.mem_cons_of_mem _ (List.mem_append_right _ h)) hown hK hP 0 rfl rfl 12 (by decide) (hts (.fieldLink RX12 41 "TemplateForgeModel" "fields" "[I") (List.mem_of_getElem? (i := 7) rfl)) (fun _ h9 => h9) rfl dX12_field_13 ?_
    refine lv_iload_n hx hb dX12_field_16 rfl (lv_at hl 1 rfl) ?_
    have hin_3 := h.1
    have h := h.2
    refine va_iald hx hb hK hP 11 0 rfl rfl hin_3 dX12_field_17 ?_
    refine lv_goto (tgt := 23) hx hb dX12_field_18 (by decide) ?_
    exact W.iret (v := S 12 (a1 : Int32).toNatClampNeg) hx hb hr (fun t ht hW => ⟨_, rfl, h, ht⟩) (fun q h => by cases h) dX12_field_23
def wp_X12_takes (S : MST) (a1 : Int32) (a2 : Int32) (Post : Int32 → Prop) : Prop :=
  ((a1 : Int32).toInt < 0 ∨ 17 < (a1 : Int32).toInt → ((((a1 : Int32) < 3) → (Post 1)) ∧ ((¬ ((a1 : Int32) < 3)) → (((8 < a1) → (Post 1)) ∧ ((¬ (8 < a1)) → (Post 2)))))) ∧ (a1 = 0 → (Post 0)) ∧ (a1 = 1 → (Post 0)) ∧ (a1 = 2 → ((((a1 : Int32) < 3) → (Post 1)) ∧ ((¬ ((a1 : Int32) < 3)) → (((8 < a1) → (Post 1)) ∧ ((¬ (8 < a1)) → (Post 2)))))) ∧ (a1 = 3 → ((((a1 : Int32) < 3) → (Post 1)) ∧ ((¬ ((a1 : Int32) < 3)) → (((8 < a1) → (Post 1)) ∧ ((¬ (8 < a1)) → (Post 2)))))) ∧ (a1 = 4 → ((((a1 : Int32) < 3) → (Post 1)) ∧ ((¬ ((a1 : Int32) < 3)) → (((8 < a1) → (Post 1)) ∧ ((¬ (8 < a1)) → (Post 2)))))) ∧ (a1 = 5 → ((((a1 : Int32) < 3) → (Post 1)) ∧ ((¬ ((a1 : Int32) < 3)) → (((8 < a1) → (Post 1)) ∧ ((¬ (8 < a1)) → (Post 2)))))) ∧ (a1 = 6 → ((((a1 : Int32) < 3) → (Post 1)) ∧ ((¬ ((a1 : Int32) < 3)) → (((8 < a1) → (Post 1)) ∧ ((¬ (8 < a1)) → (Post 2)))))) ∧ (a1 = 7 → ((((a1 : Int32) < 3) → (Post 1)) ∧ ((¬ ((a1 : Int32) < 3)) → (((8 < a1) → (Post 1)) ∧ ((¬ (8 < a1)) → (Post 2)))))) ∧ (a1 = 8 → ((((a1 : Int32) < 3) → (Post 1)) ∧ ((¬ ((a1 : Int32) < 3)) → (((8 < a1) → (Post 1)) ∧ ((¬ (8 < a1)) → (Post 2)))))) ∧ (a1 = 9 → (Post 0)) ∧ (a1 = 10 → ((((a1 : Int32) < 3) → (Post 1)) ∧ ((¬ ((a1 : Int32) < 3)) → (((8 < a1) → (Post 1)) ∧ ((¬ (8 < a1)) → (Post 2)))))) ∧ (a1 = 11 → (vp_in a2 8 ∧ (Post (S 1 (a2 : Int32).toNatClampNeg)))) ∧ (a1 = 12 → ((((a1 : Int32) < 3) → (Post 1)) ∧ ((¬ ((a1 : Int32) < 3)) → (((8 < a1) → (Post 1)) ∧ ((¬ (8 < a1)) → (Post 2)))))) ∧ (a1 = 13 → (Post 0)) ∧ (a1 = 14 → ((((a1 : Int32) < 3) → (Post 1)) ∧ ((¬ ((a1 : Int32) < 3)) → (((8 < a1) → (Post 1)) ∧ ((¬ (8 < a1)) → (Post 2)))))) ∧ (a1 = 15 → ((((a1 : Int32) < 3) → (Post 1)) ∧ ((¬ ((a1 : Int32) < 3)) → (((8 < a1) → (Post 1)) ∧ ((¬ (8 < a1)) → (Post 2)))))) ∧ (a1 = 16 → ((((a1 : Int32) < 3) → (Post 1)) ∧ ((¬ ((a1 : Int32) < 3)) → (((8 < a1) → (Post 1)) ∧ ((¬ (8 < a1)) → (Post 2)))))) ∧ (a1 = 17 → (Post 2))
def zw_zd_X12_takes_w0 : List Cond := [.fieldLink RX12 7 "TemplateForgeModel" "args" "[I"]
def zw_zd_X12_takes : List Cond := .code yX12_takes cX12_takes 3 (some .int) :: ((zw_zd_X12_takes_w0) ++ wsX120)
set_option maxHeartbeats 16000000 in
set_option maxRecDepth 100000 in
theorem zd_X12_takes (l : Launch) (D : va_G) (cI cZ cP cF : Nat) (h0 : Nat) (q : Nat → Nat) (S : MST) (a1 : Int32) (a2 : Int32) (Post : Int32 → Prop) (h : wp_X12_takes S a1 a2 Post) : Met l yX12_takes zw_zd_X12_takes ({ frames := 0, cells := 0, slots := 0, locals := 0 }) (va_Pc [.ref h0, .int a1, .int a2] (fun U => va_P D vwCl (mW cI cZ h0 q S) U.heap ∧ zE D cI cZ cP cF U)) (vp_Si Post) 0 0 (fun _ => False) := by
  unfold wp_X12_takes at h
  refine Met.ofW (cc := cX12_takes) (maxL := 3) (ret := (some .int)) (by decide) rfl ?_
  intro p e s m args below meth c s₁ B hml hv
  obtain ⟨rfl, hP, hE⟩ := hv
  have hx := B.exec
  have hb := B.bytes
  have hr := B.returns
  have hts := atoms_spec (ws := zw_zd_X12_takes) B.pre
  have hown : s.vm.findClass RX12 = some m.cls := findClass_of_methodNamed B.named
  have hlocks := B.notSynchronized
  have hK := hE.k
  have hl := lv_entry ([.ref h0, .int a1, .int a2]) (n := 3) (Nat.le_of_ble_eq_true rfl)
  rw [lg_entry_eq]
  generalize (lg_sl ([.ref h0, .int a1, .int a2]) ++ List.replicate (3 - (lg_sl ([.ref h0, .int a1, .int a2])).length) Slot.unset).toArray = ls at hl ⊢
  have hl : lv_has ls 3 [(0, .ref h0), (1, .int a1), (2, .int a2)] := hl
  refine lv_iload_n hx hb dX12_takes_0 rfl (lv_at hl 1 rfl) ?_
  rcases zt_0_17 a1 with h_out | h_in | h_in | h_in | h_in | h_in | h_in | h_in | h_in | h_in | h_in | h_in | h_in | h_in | h_in | h_in | h_in | h_in | h_in
  · have h := h.1 h_out
    refine lv_tableOut (tgt := 99) hx hb dX12_takes_1 h_out (by decide) ?_
    refine lv_iload_n hx hb dX12_takes_99 rfl (lv_at hl 1 rfl) ?_
    refine lv_iconst (v := 3) hx hb dX12_takes_100 (by decide) ?_
    refine lv_icmp_lt (tgt := 114) hx hb dX12_takes_101 (by decide) (fun c_1 => ?_) (fun c_1 => ?_)
    · have h := h.1 c_1
      refine lv_iconst (v := 1) hx hb dX12_takes_114 (by decide) ?_
      exact W.iret (v := 1) hx hb hr (fun t ht hW => ⟨_, rfl, h, ht⟩) (fun q h => by cases h) dX12_takes_115
    · have h := h.2 c_1
      refine lv_iload_n hx hb dX12_takes_104 rfl (lv_at hl 1 rfl) ?_
      refine lv_bipush (v := 8) hx hb dX12_takes_105 (by decide) ?_
      refine lv_icmp_gt (tgt := 114) hx hb dX12_takes_107 (by decide) (fun c_2 => ?_) (fun c_2 => ?_)
      · have h := h.1 c_2
        refine lv_iconst (v := 1) hx hb dX12_takes_114 (by decide) ?_
        exact W.iret (v := 1) hx hb hr (fun t ht hW => ⟨_, rfl, h, ht⟩) (fun q h => by cases h) dX12_takes_115
      · have h := h.2 c_2
        refine lv_iconst (v := 2) hx hb dX12_takes_110 (by decide) ?_
        refine lv_goto (tgt := 115) hx hb dX12_takes_111 (by decide) ?_
        exact W.iret (v := 2) hx hb hr (fun t ht hW => ⟨_, rfl, h, ht⟩) (fun q h => by cases h) dX12_takes_115
  · have h := h.2.1 h_in
    refine lv_tableIn (off := 87) (tgt := 88) hx hb dX12_takes_1 (by rw [h_in]; decide) (by rw [h_in]; decide) (by rw [h_in]; decide) (by decide) ?_
    refine lv_iconst (v := 0) hx hb dX12_takes_88 (by decide) ?_
    exact W.iret (v := 0) hx hb hr (fun t ht hW => ⟨_, rfl, h, ht⟩) (fun q h => by cases h) dX12_takes_89
  · have h := h.2.2.1 h_in
    refine lv_tableIn (off := 87) (tgt := 88) hx hb dX12_takes_1 (by rw [h_in]; decide) (by rw [h_in]; decide) (by rw [h_in]; decide) (by decide) ?_
    refine lv_iconst (v := 0) hx hb dX12_takes_88 (by decide) ?_
    exact W.iret (v := 0) hx hb hr (fun t ht hW => ⟨_, rfl, h, ht⟩) (fun q h => by cases h) dX12_takes_89
  · have h := h.2.2.2.1 h_in
    refine lv_tableIn (off := 98) (tgt := 99) hx hb dX12_takes_1 (by rw [h_in]; decide) (by rw [h_in]; decide) (by rw [h_in]; decide) (by decide) ?_
    refine lv_iload_n hx hb dX12_takes_99 rfl (lv_at hl 1 rfl) ?_
    refine lv_iconst (v := 3) hx hb dX12_takes_100 (by decide) ?_
    refine lv_icmp_lt (tgt := 114) hx hb dX12_takes_101 (by decide) (fun c_3 => ?_) (fun c_3 => ?_)
    · have h := h.1 c_3
      refine lv_iconst (v := 1) hx hb dX12_takes_114 (by decide) ?_
      exact W.iret (v := 1) hx hb hr (fun t ht hW => ⟨_, rfl, h, ht⟩) (fun q h => by cases h) dX12_takes_115
    · have h := h.2 c_3
      refine lv_iload_n hx hb dX12_takes_104 rfl (lv_at hl 1 rfl) ?_
      refine lv_bipush (v := 8) hx hb dX12_takes_105 (by decide) ?_
      refine lv_icmp_gt (tgt := 114) hx hb dX12_takes_107 (by decide) (fun c_4 => ?_) (fun c_4 => ?_)
      · have h := h.1 c_4
        refine lv_iconst (v := 1) hx hb dX12_takes_114 (by decide) ?_
        exact W.iret (v := 1) hx hb hr (fun t ht hW => ⟨_, rfl, h, ht⟩) (fun q h => by cases h) dX12_takes_115
      · have h := h.2 c_4
        refine lv_iconst (v := 2) hx hb dX12_takes_110 (by decide) ?_
        refine lv_goto (tgt := 115) hx hb dX12_takes_111 (by decide) ?_
        exact W.iret (v := 2) hx hb hr (fun t ht hW => ⟨_, rfl, h, ht⟩) (fun q h => by cases h) dX12_takes_115
  · have h := h.2.2.2.2.1 h_in
    refine lv_tableIn (off := 98) (tgt := 99) hx hb dX12_takes_1 (by rw [h_in]; decide) (by rw [h_in]; decide) (by rw [h_in]; decide) (by decide) ?_
    refine lv_iload_n hx hb dX12_takes_99 rfl (lv_at hl 1 rfl) ?_
    refine lv_iconst (v := 3) hx hb dX12_takes_100 (by decide) ?_
    refine lv_icmp_lt (tgt := 114) hx hb dX12_takes_101 (by decide) (fun c_5 => ?_) (fun c_5 => ?_)
    · have h := h.1 c_5
      refine lv_iconst (v := 1) hx hb dX12_takes_114 (by decide) ?_
      exact W.iret (v := 1) hx hb hr (fun t ht hW => ⟨_, rfl, h, ht⟩) (fun q h => by cases h) dX12_takes_115
    · have h := h.2 c_5
      refine lv_iload_n hx hb dX12_takes_104 rfl (lv_at hl 1 rfl) ?_
      refine lv_bipush (v := 8) hx hb dX12_takes_105 (by decide) ?_
      refine lv_icmp_gt (tgt := 114) hx hb dX12_takes_107 (by decide) (fun c_6 => ?_) (fun c_6 => ?_)
      · have h := h.1 c_6
        refine lv_iconst (v := 1) hx hb dX12_takes_114 (by decide) ?_
        exact W.iret (v := 1) hx hb hr (fun t ht hW => ⟨_, rfl, h, ht⟩) (fun q h => by cases h) dX12_takes_115
      · have h := h.2 c_6
        refine lv_iconst (v := 2) hx hb dX12_takes_110 (by decide) ?_
        refine lv_goto (tgt := 115) hx hb dX12_takes_111 (by decide) ?_
        exact W.iret (v := 2) hx hb hr (fun t ht hW => ⟨_, rfl, h, ht⟩) (fun q h => by cases h) dX12_takes_115
  · have h := h.2.2.2.2.2.1 h_in
    refine lv_tableIn (off := 98) (tgt := 99) hx hb dX12_takes_1 (by rw [h_in]; decide) (by rw [h_in]; decide) (by rw [h_in]; decide) (by decide) ?_
    refine lv_iload_n hx hb dX12_takes_99 rfl (lv_at hl 1 rfl) ?_
    refine lv_iconst (v := 3) hx hb dX12_takes_100 (by decide) ?_
    refine lv_icmp_lt (tgt := 114) hx hb dX12_takes_101 (by decide) (fun c_7 => ?_) (fun c_7 => ?_)
    · have h := h.1 c_7
      refine lv_iconst (v := 1) hx hb dX12_takes_114 (by decide) ?_
      exact W.iret (v := 1) hx hb hr (fun t ht hW => ⟨_, rfl, h, ht⟩) (fun q h => by cases h) dX12_takes_115
    · have h := h.2 c_7
      refine lv_iload_n hx hb dX12_takes_104 rfl (lv_at hl 1 rfl) ?_
      refine lv_bipush (v := 8) hx hb dX12_takes_105 (by decide) ?_
      refine lv_icmp_gt (tgt := 114) hx hb dX12_takes_107 (by decide) (fun c_8 => ?_) (fun c_8 => ?_)
      · have h := h.1 c_8
        refine lv_iconst (v := 1) hx hb dX12_takes_114 (by decide) ?_
        exact W.iret (v := 1) hx hb hr (fun t ht hW => ⟨_, rfl, h, ht⟩) (fun q h => by cases h) dX12_takes_115
      · have h := h.2 c_8
        refine lv_iconst (v := 2) hx hb dX12_takes_110 (by decide) ?_
        refine lv_goto (tgt := 115) hx hb dX12_takes_111 (by decide) ?_
        exact W.iret (v := 2) hx hb hr (fun t ht hW => ⟨_, rfl, h, ht⟩) (fun q h => by cases h) dX12_takes_115
  · have h := h.2.2.2.2.2.2.1 h_in
    refine lv_tableIn (off := 98) (tgt := 99) hx hb dX12_takes_1 (by rw [h_in]; decide) (by rw [h_in]; decide) (by rw [h_in]; decide) (by decide) ?_
    refine lv_iload_n hx hb dX12_takes_99 rfl (lv_at hl 1 rfl) ?_
    refine lv_iconst (v := 3) hx hb dX12_takes_100 (by decide) ?_
    refine lv_icmp_lt (tgt := 114) hx hb dX12_takes_101 (by decide) (fun c_9 => ?_) (fun c_9 => ?_)
    · have h := h.1 c_9
      refine lv_iconst (v := 1) hx hb dX12_takes_114 (by decide) ?_
      exact W.iret (v := 1) hx hb hr (fun t ht hW => ⟨_, rfl, h, ht⟩) (fun q h => by cases h) dX12_takes_115
    · have h := h.2 c_9
      refine lv_iload_n hx hb dX12_takes_104 rfl (lv_at hl 1 rfl) ?_
      refine lv_bipush (v := 8) hx hb dX12_takes_105 (by decide) ?_
      refine lv_icmp_gt (tgt := 114) hx hb dX12_takes_107 (by decide) (fun c_10 => ?_) (fun c_10 => ?_)
      · have h := h.1 c_10
        refine lv_iconst (v := 1) hx hb dX12_takes_114 (by decide) ?_
        exact W.iret (v := 1) hx hb hr (fun t ht hW => ⟨_, rfl, h, ht⟩) (fun q h => by cases h) dX12_takes_115
      · have h := h.2 c_10
        refine lv_iconst (v := 2) hx hb dX12_takes_110 (by decide) ?_
        refine lv_goto (tgt := 115) hx hb dX12_takes_111 (by decide) ?_
        exact W.iret (v := 2) hx hb hr (fun t ht hW => ⟨_, rfl, h, ht⟩) (fun q h => by cases h) dX12_takes_115
  · have h := h.2.2.2.2.2.2.2.1 h_in
    refine lv_tableIn (off := 98) (tgt := 99) hx hb dX12_takes_1 (by rw [h_in]; decide) (by rw [h_in]; decide) (by rw [h_in]; decide) (by decide) ?_
    refine lv_iload_n hx hb dX12_takes_99 rfl (lv_at hl 1 rfl) ?_
    refine lv_iconst (v := 3) hx hb dX12_takes_100 (by decide) ?_
    refine lv_icmp_lt (tgt := 114) hx hb dX12_takes_101 (by decide) (fun c_11 => ?_) (fun c_11 => ?_)
    · have h := h.1 c_11
      refine lv_iconst (v := 1) hx hb dX12_takes_114 (by decide) ?_
      exact W.iret (v := 1) hx hb hr (fun t ht hW => ⟨_, rfl, h, ht⟩) (fun q h => by cases h) dX12_takes_115
    · have h := h.2 c_11
      refine lv_iload_n hx hb dX12_takes_104 rfl (lv_at hl 1 rfl) ?_
      refine lv_bipush (v := 8) hx hb dX12_takes_105 (by decide) ?_
      refine lv_icmp_gt (tgt := 114) hx hb dX12_takes_107 (by decide) (fun c_12 => ?_) (fun c_12 => ?_)
      · have h := h.1 c_12
        refine lv_iconst (v := 1) hx hb dX12_takes_114 (by decide) ?_
        exact W.iret (v := 1) hx hb hr (fun t ht hW => ⟨_, rfl, h, ht⟩) (fun q h => by cases h) dX12_takes_115
      · have h := h.2 c_12
        refine lv_iconst (v := 2) hx hb dX12_takes_110 (by decide) ?_
        refine lv_goto (tgt := 115) hx hb dX12_takes_111 (by decide) ?_
        exact W.iret (v := 2) hx hb hr (fun t ht hW => ⟨_, rfl, h, ht⟩) (fun q h => by cases h) dX12_takes_115
  · have h := h.2.2.2.2.2.2.2.2.1 h_in
    refine lv_tableIn (off := 98) (tgt := 99) hx hb dX12_takes_1 (by rw [h_in]; decide) (by rw [h_in]; decide) (by rw [h_in]; decide) (by decide) ?_
    refine lv_iload_n hx hb dX12_takes_99 rfl (lv_at hl 1 rfl) ?_
    refine lv_iconst (v := 3) hx hb dX12_takes_100 (by decide) ?_
    refine lv_icmp_lt (tgt := 114) hx hb dX12_takes_101 (by decide) (fun c_13 => ?_) (fun c_13 => ?_)
    · have h := h.1 c_13
      refine lv_iconst (v := 1) hx hb dX12_takes_114 (by decide) ?_
      exact W.iret (v := 1) hx hb hr (fun t ht hW => ⟨_, rfl, h, ht⟩) (fun q h => by cases h) dX12_takes_115
    · have h := h.2 c_13
      refine lv_iload_n hx hb dX12_takes_104 rfl (lv_at hl 1 rfl) ?_
      refine lv_bipush (v := 8) hx hb dX12_takes_105 (by decide) ?_
      refine lv_icmp_gt (tgt := 114) hx hb dX12_takes_107 (by decide) (fun c_14 => ?_) (fun c_14 => ?_)
      · have h := h.1 c_14
        refine lv_iconst (v := 1) hx hb dX12_takes_114 (by decide) ?_
        exact W.iret (v := 1) hx hb hr (fun t ht hW => ⟨_, rfl, h, ht⟩) (fun q h => by cases h) dX12_takes_115
      · have h := h.2 c_14
        refine lv_iconst (v := 2) hx hb dX12_takes_110 (by decide) ?_
        refine lv_goto (tgt := 115) hx hb dX12_takes_111 (by decide) ?_
        exact W.iret (v := 2) hx hb hr (fun t ht hW => ⟨_, rfl, h, ht⟩) (fun q h => by cases h) dX12_takes_115
  · have h := h.2.2.2.2.2.2.2.2.2.1 h_in
    refine lv_tableIn (off := 98) (tgt := 99) hx hb dX12_takes_1 (by rw [h_in]; decide) (by rw [h_in]; decide) (by rw [h_in]; decide) (by decide) ?_
    refine lv_iload_n hx hb dX12_takes_99 rfl (lv_at hl 1 rfl) ?_
    refine lv_iconst (v := 3) hx hb dX12_takes_100 (by decide) ?_
    refine lv_icmp_lt (tgt := 114) hx hb dX12_takes_101 (by decide) (fun c_15 => ?_) (fun c_15 => ?_)
    · have h := h.1 c_15
      refine lv_iconst (v := 1) hx hb dX12_takes_114 (by decide) ?_
      exact W.iret (v := 1) hx hb hr (fun t ht hW => ⟨_, rfl, h, ht⟩) (fun q h => by cases h) dX12_takes_115
    · have h := h.2 c_15
      refine lv_iload_n hx hb dX12_takes_104 rfl (lv_at hl 1 rfl) ?_
      refine lv_bipush (v := 8) hx hb dX12_takes_105 (by decide) ?_
      refine lv_icmp_gt (tgt := 114) hx hb dX12_takes_107 (by decide) (fun c_16 => ?_) (fun c_16 => ?_)
      · have h := h.1 c_16
        refine lv_iconst (v := 1) hx hb dX12_takes_114 (by decide) ?_
        exact W.iret (v := 1) hx hb hr (fun t ht hW => ⟨_, rfl, h, ht⟩) (fun q h => by cases h) dX12_takes_115
      · have h := h.2 c_16
        refine lv_iconst (v := 2) hx hb dX12_takes_110 (by decide) ?_
        refine lv_goto (tgt := 115) hx hb dX12_takes_111 (by decide) ?_
        exact W.iret (v := 2) hx hb hr (fun t ht hW => ⟨_, rfl, h, ht⟩) (fun q h => by cases h) dX12_takes_115
  · have h := h.2.2.2.2.2.2.2.2.2.2.1 h_in
    refine lv_tableIn (off := 87) (tgt := 88) hx hb dX12_takes_1 (by rw [h_in]; decide) (by rw [h_in]; decide) (by rw [h_in]; decide) (by decide) ?_
    refine lv_iconst (v := 0) hx hb dX12_takes_88 (by decide) ?_
    exact W.iret (v := 0) hx hb hr (fun t ht hW => ⟨_, rfl, h, ht⟩) (fun q h => by cases h) dX12_takes_89
  · have h := h.2.2.2.2.2.2.2.2.2.2.2.1 h_in
    refine lv_tableIn (off := 98) (tgt := 99) hx hb dX12_takes_1 (by rw [h_in]; decide) (by rw [h_in]; decide) (by rw [h_in]; decide) (by decide) ?_
    refine lv_iload_n hx hb dX12_takes_99 rfl (lv_at hl 1 rfl) ?_
    refine lv_iconst (v := 3) hx hb dX12_takes_100 (by decide) ?_
    refine lv_icmp_lt (tgt := 114) hx hb dX12_takes_101 (by decide) (fun c_17 => ?_) (fun c_17 => ?_)
    · have h := h.1 c_17
      refine lv_iconst (v := 1) hx hb dX12_takes_114 (by decide) ?_
      exact W.iret (v := 1) hx hb hr (fun t ht hW => ⟨_, rfl, h, ht⟩) (fun q h => by cases h) dX12_takes_115
    · have h := h.2 c_17
      refine lv_iload_n hx hb dX12_takes_104 rfl (lv_at hl 1 rfl) ?_
      refine lv_bipush (v := 8) hx hb dX12_takes_105 (by decide) ?_
      refine lv_icmp_gt (tgt := 114) hx hb dX12_takes_107 (by decide) (fun c_18 => ?_) (fun c_18 => ?_)
      · have h := h.1 c_18
        refine lv_iconst (v := 1) hx hb dX12_takes_114 (by decide) ?_
        exact W.iret (v := 1) hx hb hr (fun t ht hW => ⟨_, rfl, h, ht⟩) (fun q h => by cases h) dX12_takes_115
      · have h := h.2 c_18
        refine lv_iconst (v := 2) hx hb dX12_takes_110 (by decide) ?_
        refine lv_goto (tgt := 115) hx hb dX12_takes_111 (by decide) ?_
        exact W.iret (v := 2) hx hb hr (fun t ht hW => ⟨_, rfl, h, ht⟩) (fun q h => by cases h) dX12_takes_115
  · have h := h.2.2.2.2.2.2.2.2.2.2.2.2.1 h_in
    refine lv_tableIn (off := 89) (tgt := 90) hx hb dX12_takes_1 (by rw [h_in]; decide) (by rw [h_in]; decide) (by rw [h_in]; decide) (by decide) ?_
    refine lv_aload_n hx hb dX12_takes_90 rfl (lv_at hl 0 rfl) ?_
    refine va_get (D := D) (ci := 12) (v := .ref (q 1)) (C := RX12) (T := TX12) (N := 52) hx hb hts (fun _ h => List.mem_cons_of_mem _ (List.mem_append_right _ h)) hown hK hP 0 rfl rfl 1 (by decide) (hts (.fieldLink RX12 7 "TemplateForgeModel" "args" "[I") (List.mem_of_getElem? (i := 1) rfl)) (fun _ h9 => h9) rfl dX12_takes_91 ?_
    refine lv_iload_n hx hb dX12_takes_94 rfl (lv_at hl 2 rfl) ?_
    have hin_19 := h.1
    have h := h.2
    refine va_iald hx hb hK hP 1 0 rfl rfl hin_19 dX12_takes_95 ?_
    exact W.iret (v := S 1 (a2 : Int32).toNatClampNeg) hx hb hr (fun t ht hW => ⟨_, rfl, h, ht⟩) (fun q h => by cases h) dX12_takes_96
  · have h := h.2.2.2.2.2.2.2.2.2.2.2.2.2.1 h_in
    refine lv_tableIn (off := 98) (tgt := 99) hx hb dX12_takes_1 (by rw [h_in]; decide) (by rw [h_in]; decide) (by rw [h_in]; decide) (by decide) ?_
    refine lv_iload_n hx hb dX12_takes_99 rfl (lv_at hl 1 rfl) ?_
    refine lv_iconst (v := 3) hx hb dX12_takes_100 (by decide) ?_
    refine lv_icmp_lt (tgt := 114) hx hb dX12_takes_101 (by decide) (fun c_20 => ?_) (fun c_20 => ?_)
    · have h := h.1 c_20
      refine lv_iconst (v := 1) hx hb dX12_takes_114 (by decide) ?_
      exact W.iret (v := 1) hx hb hr (fun t ht hW => ⟨_, rfl, h, ht⟩) (fun q h => by cases h) dX12_takes_115
    · have h := h.2 c_20
      refine lv_iload_n hx hb dX12_takes_104 rfl (lv_at hl 1 rfl) ?_
      refine lv_bipush (v := 8) hx hb dX12_takes_105 (by decide) ?_
      refine lv_icmp_gt (tgt := 114) hx hb dX12_takes_107 (by decide) (fun c_21 => ?_) (fun c_21 => ?_)
      · have h := h.1 c_21
        refine lv_iconst (v := 1) hx hb dX12_takes_114 (by decide) ?_
        exact W.iret (v := 1) hx hb hr (fun t ht hW => ⟨_, rfl, h, ht⟩) (fun q h => by cases h) dX12_takes_115
      · have h := h.2 c_21
        refine lv_iconst (v := 2) hx hb dX12_takes_110 (by decide) ?_
        refine lv_goto (tgt := 115) hx hb dX12_takes_111 (by decide) ?_
        exact W.iret (v := 2) hx hb hr (fun t ht hW => ⟨_, rfl, h, ht⟩) (fun q h => by cases h) dX12_takes_115
  · have h := h.2.2.2.2.2.2.2.2.2.2.2.2.2.2.1 h_in
    refine lv_tableIn (off := 87) (tgt := 88) hx hb dX12_takes_1 (by rw [h_in]; decide) (by rw [h_in]; decide) (by rw [h_in]; decide) (by decide) ?_
    refine lv_iconst (v := 0) hx hb dX12_takes_88 (by decide) ?_
    exact W.iret (v := 0) hx hb hr (fun t ht hW => ⟨_, rfl, h, ht⟩) (fun q h => by cases h) dX12_takes_89
  · have h := h.2.2.2.2.2.2.2.2.2.2.2.2.2.2.2.1 h_in
    refine lv_tableIn (off := 98) (tgt := 99) hx hb dX12_takes_1 (by rw [h_in]; decide) (by rw [h_in]; decide) (by rw [h_in]; decide) (by decide) ?_
    refine lv_iload_n hx hb dX12_takes_99 rfl (lv_at hl 1 rfl) ?_
    refine lv_iconst (v := 3) hx hb dX12_takes_100 (by decide) ?_
    refine lv_icmp_lt (tgt := 114) hx hb dX12_takes_101 (by decide) (fun c_22 => ?_) (fun c_22 => ?_)
    · have h := h.1 c_22
      refine lv_iconst (v := 1) hx hb dX12_takes_114 (by decide) ?_
      exact W.iret (v := 1) hx hb hr (fun t ht hW => ⟨_, rfl, h, ht⟩) (fun q h => by cases h) dX12_takes_115
    · have h := h.2 c_22
      refine lv_iload_n hx hb dX12_takes_104 rfl (lv_at hl 1 rfl) ?_
      refine lv_bipush (v := 8) hx hb dX12_takes_105 (by decide) ?_
      refine lv_icmp_gt (tgt := 114) hx hb dX12_takes_107 (by decide) (fun c_23 => ?_) (fun c_23 => ?_)
      · have h := h.1 c_23
        refine lv_iconst (v := 1) hx hb dX12_takes_114 (by decide) ?_
        exact W.iret (v := 1) hx hb hr (fun t ht hW => ⟨_, rfl, h, ht⟩) (fun q h => by cases h) dX12_takes_115
      · have h := h.2 c_23
        refine lv_iconst (v := 2) hx hb dX12_takes_110 (by decide) ?_
        refine lv_goto (tgt := 115) hx hb dX12_takes_111 (by decide) ?_
        exact W.iret (v := 2) hx hb hr (fun t ht hW => ⟨_, rfl, h, ht⟩) (fun q h => by cases h) dX12_takes_115
  · have h := h.2.2.2.2.2.2.2.2.2.2.2.2.2.2.2.2.1 h_in
    refine lv_tableIn (off := 98) (tgt := 99) hx hb dX12_takes_1 (by rw [h_in]; decide) (by rw [h_in]; decide) (by rw [h_in]; decide) (by decide) ?_
    refine lv_iload_n hx hb dX12_takes_99 rfl (lv_at hl 1 rfl) ?_
    refine lv_iconst (v := 3) hx hb dX12_takes_100 (by decide) ?_
    refine lv_icmp_lt (tgt := 114) hx hb dX12_takes_101 (by decide) (fun c_24 => ?_) (fun c_24 => ?_)
    · have h := h.1 c_24
      refine lv_iconst (v := 1) hx hb dX12_takes_114 (by decide) ?_
      exact W.iret (v := 1) hx hb hr (fun t ht hW => ⟨_, rfl, h, ht⟩) (fun q h => by cases h) dX12_takes_115
    · have h := h.2 c_24
      refine lv_iload_n hx hb dX12_takes_104 rfl (lv_at hl 1 rfl) ?_
      refine lv_bipush (v := 8) hx hb dX12_takes_105 (by decide) ?_
      refine lv_icmp_gt (tgt := 114) hx hb dX12_takes_107 (by decide) (fun c_25 => ?_) (fun c_25 => ?_)
      · have h := h.1 c_25
        refine lv_iconst (v := 1) hx hb dX12_takes_114 (by decide) ?_
        exact W.iret (v := 1) hx hb hr (fun t ht hW => ⟨_, rfl, h, ht⟩) (fun q h => by cases h) dX12_takes_115
      · have h := h.2 c_25
        refine lv_iconst (v := 2) hx hb dX12_takes_110 (by decide) ?_
        refine lv_goto (tgt := 115) hx hb dX12_takes_111 (by decide) ?_
        exact W.iret (v := 2) hx hb hr (fun t ht hW => ⟨_, rfl, h, ht⟩) (fun q h => by cases h) dX12_takes_115
  · have h := h.2.2.2.2.2.2.2.2.2.2.2.2.2.2.2.2.2.1 h_in
    refine lv_tableIn (off := 98) (tgt := 99) hx hb dX12_takes_1 (by rw [h_in]; decide) (by rw [h_in]; decide) (by rw [h_in]; decide) (by decide) ?_
    refine lv_iload_n hx hb dX12_takes_99 rfl (lv_at hl 1 rfl) ?_
    refine lv_iconst (v := 3) hx hb dX12_takes_100 (by decide) ?_
    refine lv_icmp_lt (tgt := 114) hx hb dX12_takes_101 (by decide) (fun c_26 => ?_) (fun c_26 => ?_)
    · have h := h.1 c_26
      refine lv_iconst (v := 1) hx hb dX12_takes_114 (by decide) ?_
      exact W.iret (v := 1) hx hb hr (fun t ht hW => ⟨_, rfl, h, ht⟩) (fun q h => by cases h) dX12_takes_115
    · have h := h.2 c_26
      refine lv_iload_n hx hb dX12_takes_104 rfl (lv_at hl 1 rfl) ?_
      refine lv_bipush (v := 8) hx hb dX12_takes_105 (by decide) ?_
      refine lv_icmp_gt (tgt := 114) hx hb dX12_takes_107 (by decide) (fun c_27 => ?_) (fun c_27 => ?_)
      · have h := h.1 c_27
        refine lv_iconst (v := 1) hx hb dX12_takes_114 (by decide) ?_
        exact W.iret (v := 1) hx hb hr (fun t ht hW => ⟨_, rfl, h, ht⟩) (fun q h => by cases h) dX12_takes_115
      · have h := h.2 c_27
        refine lv_iconst (v := 2) hx hb dX12_takes_110 (by decide) ?_
        refine lv_goto (tgt := 115) hx hb dX12_takes_111 (by decide) ?_
        exact W.iret (v := 2) hx hb hr (fun t ht hW => ⟨_, rfl, h, ht⟩) (fun q h => by cases h) dX12_takes_115
  · have h := h.2.2.2.2.2.2.2.2.2.2.2.2.2.2.2.2.2.2 h_in
    refine lv_tableIn (off := 96) (tgt := 97) hx hb dX12_takes_1 (by rw [h_in]; decide) (by rw [h_in]; decide) (by rw [h_in]; decide) (by decide) ?_
    refine lv_iconst (v := 2) hx hb dX12_takes_97 (by decide) ?_
    exact W.iret (v := 2) hx hb hr (fun t ht hW => ⟨_, rfl, h, ht⟩) (fun q h => by cases h) dX12_takes_98
def wp_X12_lays (a0 : Int32) (Post : Int32 → Prop) : Prop :=
  ((a0 : Int32).toInt < 2 ∨ 19 < (a0 : Int32).toInt → (Post 1)) ∧ (a0 = 2 → (Post 0)) ∧ (a0 = 3 → (Post 1)) ∧ (a0 = 4 → (Post 1)) ∧ (a0 = 5 → (Post 1)) ∧ (a0 = 6 → (Post 1)) ∧ (a0 = 7 → (Post 1)) ∧ (a0 = 8 → (Post 1)) ∧ (a0 = 9 → (Post 0)) ∧ (a0 = 10 → (Post 0)) ∧ (a0 = 11 → (Post 1)) ∧ (a0 = 12 → (Post 0)) ∧ (a0 = 13 → (Post 1)) ∧ (a0 = 14 → (Post 0)) ∧ (a0 = 15 → (Post 0)) ∧ (a0 = 16 → (Post 1)) ∧ (a0 = 17 → (Post 0)) ∧ (a0 = 18 → (Post 2)) ∧ (a0 = 19 → (Post 0))
def zw_zd_X12_lays : List Cond := .code yX12_lays cX12_lays 1 (some .int) :: ((([] : List Cond)))
set_option maxHeartbeats 16000000 in
set_option maxRecDepth 100000 in
theorem zd_X12_lays (l : Launch) (D : va_G) (cI cZ cP cF : Nat) (a0 : Int32) (Post : Int32 → Prop) (h : wp_X12_lays a0 Post) : Met l yX12_lays zw_zd_X12_lays ({ frames := 0, cells := 0, slots := 0, locals := 0 }) (va_Pc [.int a0] (fun U => va_P D vwCl [] U.heap ∧ zE D cI cZ cP cF U)) (vp_Si Post) 0 0 (fun _ => False) := by
  unfold wp_X12_lays at h
  refine Met.ofW (cc := cX12_lays) (maxL := 1) (ret := (some .int)) (by decide) rfl ?_
  intro p e s m args below meth c s₁ B hml hv
  obtain ⟨rfl, hP, hE⟩ := hv
  have hx := B.exec
  have hb := B.bytes
  have hr := B.returns
  have hts := atoms_spec (ws := zw_zd_X12_lays) B.pre
  have hown : s.vm.findClass RX12 = some m.cls := findClass_of_methodNamed B.named
  have hlocks := B.notSynchronized
  have hK := hE.k
  have hl := lv_entry ([.int a0]) (n := 1) (Nat.le_of_ble_eq_true rfl)
  rw [lg_entry_eq]
  generalize (lg_sl ([.int a0]) ++ List.replicate (1 - (lg_sl ([.int a0])).length) Slot.unset).toArray = ls at hl ⊢
  have hl : lv_has ls 1 [(0, .int a0)] := hl
  refine lv_iload_n hx hb dX12_lays_0 rfl (lv_at hl 0 rfl) ?_
  rcases zt_2_19 a0 with h_out | h_in | h_in | h_in | h_in | h_in | h_in | h_in | h_in | h_in | h_in | h_in | h_in | h_in | h_in | h_in | h_in | h_in | h_in
  · have h := h.1 h_out
    refine lv_tableOut (tgt := 92) hx hb dX12_lays_1 h_out (by decide) ?_
    refine lv_iconst (v := 1) hx hb dX12_lays_92 (by decide) ?_
    exact W.iret (v := 1) hx hb hr (fun t ht hW => ⟨_, rfl, h, ht⟩) (fun q h => by cases h) dX12_lays_93
  · have h := h.2.1 h_in
    refine lv_tableIn (off := 87) (tgt := 88) hx hb dX12_lays_1 (by rw [h_in]; decide) (by rw [h_in]; decide) (by rw [h_in]; decide) (by decide) ?_
    refine lv_iconst (v := 0) hx hb dX12_lays_88 (by decide) ?_
    exact W.iret (v := 0) hx hb hr (fun t ht hW => ⟨_, rfl, h, ht⟩) (fun q h => by cases h) dX12_lays_89
  · have h := h.2.2.1 h_in
    refine lv_tableIn (off := 91) (tgt := 92) hx hb dX12_lays_1 (by rw [h_in]; decide) (by rw [h_in]; decide) (by rw [h_in]; decide) (by decide) ?_
    refine lv_iconst (v := 1) hx hb dX12_lays_92 (by decide) ?_
    exact W.iret (v := 1) hx hb hr (fun t ht hW => ⟨_, rfl, h, ht⟩) (fun q h => by cases h) dX12_lays_93
  · have h := h.2.2.2.1 h_in
    refine lv_tableIn (off := 91) (tgt := 92) hx hb dX12_lays_1 (by rw [h_in]; decide) (by rw [h_in]; decide) (by rw [h_in]; decide) (by decide) ?_
    refine lv_iconst (v := 1) hx hb dX12_lays_92 (by decide) ?_
    exact W.iret (v := 1) hx hb hr (fun t ht hW => ⟨_, rfl, h, ht⟩) (fun q h => by cases h) dX12_lays_93
  · have h := h.2.2.2.2.1 h_in
    refine lv_tableIn (off := 91) (tgt := 92) hx hb dX12_lays_1 (by rw [h_in]; decide) (by rw [h_in]; decide) (by rw [h_in]; decide) (by decide) ?_
    refine lv_iconst (v := 1) hx hb dX12_lays_92 (by decide) ?_
    exact W.iret (v := 1) hx hb hr (fun t ht hW => ⟨_, rfl, h, ht⟩) (fun q h => by cases h) dX12_lays_93
  · have h := h.2.2.2.2.2.1 h_in
    refine lv_tableIn (off := 91) (tgt := 92) hx hb dX12_lays_1 (by rw [h_in]; decide) (by rw [h_in]; decide) (by rw [h_in]; decide) (by decide) ?_
    refine lv_iconst (v := 1) hx hb dX12_lays_92 (by decide) ?_
    exact W.iret (v := 1) hx hb hr (fun t ht hW => ⟨_, rfl, h, ht⟩) (fun q h => by cases h) dX12_lays_93
  · have h := h.2.2.2.2.2.2.1 h_in
    refine lv_tableIn (off := 91) (tgt := 92) hx hb dX12_lays_1 (by rw [h_in]; decide) (by rw [h_in]; decide) (by rw [h_in]; decide) (by decide) ?_
    refine lv_iconst (v := 1) hx hb dX12_lays_92 (by decide) ?_
    exact W.iret (v := 1) hx hb hr (fun t ht hW => ⟨_, rfl, h, ht⟩) (fun q h => by cases h) dX12_lays_93
  · have h := h.2.2.2.2.2.2.2.1 h_in
    refine lv_tableIn (off := 91) (tgt := 92) hx hb dX12_lays_1 (by rw [h_in]; decide) (by rw [h_in]; decide) (by rw [h_in]; decide) (by decide) ?_
    refine lv_iconst (v := 1) hx hb dX12_lays_92 (by decide) ?_
    exact W.iret (v := 1) hx hb hr (fun t ht hW => ⟨_, rfl, h, ht⟩) (fun q h => by cases h) dX12_lays_93
  · have h := h.2.2.2.2.2.2.2.2.1 h_in
    refine lv_tableIn (off := 87) (tgt := 88) hx hb dX12_lays_1 (by rw [h_in]; decide) (by rw [h_in]; decide) (by rw [h_in]; decide) (by decide) ?_
    refine lv_iconst (v := 0) hx hb dX12_lays_88 (by decide) ?_
    exact W.iret (v := 0) hx hb hr (fun t ht hW => ⟨_, rfl, h, ht⟩) (fun q h => by cases h) dX12_lays_89
  · have h := h.2.2.2.2.2.2.2.2.2.1 h_in
    refine lv_tableIn (off := 87) (tgt := 88) hx hb dX12_lays_1 (by rw [h_in]; decide) (by rw [h_in]; decide) (by rw [h_in]; decide) (by decide) ?_
    refine lv_iconst (v := 0) hx hb dX12_lays_88 (by decide) ?_
    exact W.iret (v := 0) hx hb hr (fun t ht hW => ⟨_, rfl, h, ht⟩) (fun q h => by cases h) dX12_lays_89
  · have h := h.2.2.2.2.2.2.2.2.2.2.1 h_in
    refine lv_tableIn (off := 91) (tgt := 92) hx hb dX12_lays_1 (by rw [h_in]; decide) (by rw [h_in]; decide) (by rw [h_in]; decide) (by decide) ?_
    refine lv_iconst (v := 1) hx hb dX12_lays_92 (by decide) ?_
    exact W.iret (v := 1) hx hb hr (fun t ht hW => ⟨_, rfl, h, ht⟩) (fun q h => by cases h) dX12_lays_93
  · have h := h.2.2.2.2.2.2.2.2.2.2.2.1 h_in
    refine lv_tableIn (off := 87) (tgt := 88) hx hb dX12_lays_1 (by rw [h_in]; decide) (by rw [h_in]; decide) (by rw [h_in]; decide) (by decide) ?_
    refine lv_iconst (v := 0) hx hb dX12_lays_88 (by decide) ?_
    exact W.iret (v := 0) hx hb hr (fun t ht hW => ⟨_, rfl, h, ht⟩) (fun q h => by cases h) dX12_lays_89
  · have h := h.2.2.2.2.2.2.2.2.2.2.2.2.1 h_in
    refine lv_tableIn (off := 91) (tgt := 92) hx hb dX12_lays_1 (by rw [h_in]; decide) (by rw [h_in]; decide) (by rw [h_in]; decide) (by decide) ?_
    refine lv_iconst (v := 1) hx hb dX12_lays_92 (by decide) ?_
    exact W.iret (v := 1) hx hb hr (fun t ht hW => ⟨_, rfl, h, ht⟩) (fun q h => by cases h) dX12_lays_93
  · have h := h.2.2.2.2.2.2.2.2.2.2.2.2.2.1 h_in
    refine lv_tableIn (off := 87) (tgt := 88) hx hb dX12_lays_1 (by rw [h_in]; decide) (by rw [h_in]; decide) (by rw [h_in]; decide) (by decide) ?_
    refine lv_iconst (v := 0) hx hb dX12_lays_88 (by decide) ?_
    exact W.iret (v := 0) hx hb hr (fun t ht hW => ⟨_, rfl, h, ht⟩) (fun q h => by cases h) dX12_lays_89
  · have h := h.2.2.2.2.2.2.2.2.2.2.2.2.2.2.1 h_in
    refine lv_tableIn (off := 87) (tgt := 88) hx hb dX12_lays_1 (by rw [h_in]; decide) (by rw [h_in]; decide) (by rw [h_in]; decide) (by decide) ?_
    refine lv_iconst (v := 0) hx hb dX12_lays_88 (by decide) ?_
    exact W.iret (v := 0) hx hb hr (fun t ht hW => ⟨_, rfl, h, ht⟩) (fun q h => by cases h) dX12_lays_89
  · have h := h.2.2.2.2.2.2.2.2.2.2.2.2.2.2.2.1 h_in
    refine lv_tableIn (off := 91) (tgt := 92) hx hb dX12_lays_1 (by rw [h_in]; decide) (by rw [h_in]; decide) (by rw [h_in]; decide) (by decide) ?_
    refine lv_iconst (v := 1) hx hb dX12_lays_92 (by decide) ?_
    exact W.iret (v := 1) hx hb hr (fun t ht hW => ⟨_, rfl, h, ht⟩) (fun q h => by cases h) dX12_lays_93
  · have h := h.2.2.2.2.2.2.2.2.2.2.2.2.2.2.2.2.1 h_in
    refine lv_tableIn (off := 87) (tgt := 88) hx hb dX12_lays_1 (by rw [h_in]; decide) (by rw [h_in]; decide) (by rw [h_in]; decide) (by decide) ?_
    refine lv_iconst (v := 0) hx hb dX12_lays_88 (by decide) ?_
    exact W.iret (v := 0) hx hb hr (fun t ht hW => ⟨_, rfl, h, ht⟩) (fun q h => by cases h) dX12_lays_89
  · have h := h.2.2.2.2.2.2.2.2.2.2.2.2.2.2.2.2.2.1 h_in
    refine lv_tableIn (off := 89) (tgt := 90) hx hb dX12_lays_1 (by rw [h_in]; decide) (by rw [h_in]; decide) (by rw [h_in]; decide) (by decide) ?_
    refine lv_iconst (v := 2) hx hb dX12_lays_90 (by decide) ?_
    exact W.iret (v := 2) hx hb hr (fun t ht hW => ⟨_, rfl, h, ht⟩) (fun q h => by cases h) dX12_lays_91
  · have h := h.2.2.2.2.2.2.2.2.2.2.2.2.2.2.2.2.2.2 h_in
    refine lv_tableIn (off := 87) (tgt := 88) hx hb dX12_lays_1 (by rw [h_in]; decide) (by rw [h_in]; decide) (by rw [h_in]; decide) (by decide) ?_
    refine lv_iconst (v := 0) hx hb dX12_lays_88 (by decide) ?_
    exact W.iret (v := 0) hx hb hr (fun t ht hW => ⟨_, rfl, h, ht⟩) (fun q h => by cases h) dX12_lays_89
def wp_X12_returns (S : MST) (a1 : Int32) (Post : MST → Prop) : Prop :=
  ∀ S1 : MST, S1 = ms S 37 (fun _ => (S 37 0) - 1) → (((¬ (((S1 37 0) : Int32) = 0)) → (vp_in ((S1 37 0) - 1) 16 ∧ (((0 ≤ (S1 40 ((S1 37 0) - 1 : Int32).toNatClampNeg)) → (vp_in ((S1 37 0) - 1) 16 ∧ (vp_in ((S1 37 0) - 1) 16 ∧ (vp_in ((640 * (S1 40 ((S1 37 0) - 1 : Int32).toNatClampNeg)) + (S1 39 ((S1 37 0) - 1 : Int32).toNatClampNeg)) 61440 ∧ (vp_in ((15 * ((S1 37 0) - 1)) + (S1 26 ((640 * (S1 40 ((S1 37 0) - 1 : Int32).toNatClampNeg)) + (S1 39 ((S1 37 0) - 1 : Int32).toNatClampNeg) : Int32).toNatClampNeg)) 240 ∧ (∀ S8 : MST, S8 = ms S1 42 (upd (S1 42) ((15 * ((S1 37 0) - 1)) + (S1 26 ((640 * (S1 40 ((S1 37 0) - 1 : Int32).toNatClampNeg)) + (S1 39 ((S1 37 0) - 1 : Int32).toNatClampNeg) : Int32).toNatClampNeg) : Int32).toNatClampNeg a1) → (vp_in ((S1 37 0) - 1) 16 ∧ (vp_in ((S1 37 0) - 1) 16 ∧ (∀ S10 : MST, S10 = ms S8 39 (upd (S8 39) ((S1 37 0) - 1 : Int32).toNatClampNeg ((S8 39 ((S1 37 0) - 1 : Int32).toNatClampNeg) + 1)) → (Post S10)))))))))) ∧ ((¬ (0 ≤ (S1 40 ((S1 37 0) - 1 : Int32).toNatClampNeg))) → (vp_in ((S1 37 0) - 1) 16 ∧ (vp_in ((S1 37 0) - 1) 16 ∧ (vp_in ((60 * (S1 38 ((S1 37 0) - 1 : Int32).toNatClampNeg)) + (S1 39 ((S1 37 0) - 1 : Int32).toNatClampNeg)) 480 ∧ (vp_in ((S1 37 0) - 1) 16 ∧ (vp_in (S1 5 ((60 * (S1 38 ((S1 37 0) - 1 : Int32).toNatClampNeg)) + (S1 39 ((S1 37 0) - 1 : Int32).toNatClampNeg) : Int32).toNatClampNeg) 8 ∧ (vp_in ((S1 37 0) - 1) 16 ∧ (∀ S16 : MST, S16 = ms S1 41 (upd (S1 41) ((S1 37 0) - 1 : Int32).toNatClampNeg ((S1 41 ((S1 37 0) - 1 : Int32).toNatClampNeg) - (S1 1 (S1 5 ((60 * (S1 38 ((S1 37 0) - 1 : Int32).toNatClampNeg)) + (S1 39 ((S1 37 0) - 1 : Int32).toNatClampNeg) : Int32).toNatClampNeg : Int32).toNatClampNeg))) → (vp_in ((S1 37 0) - 1) 16 ∧ (vp_in (((15 * ((S1 37 0) - 1)) + 7) + (S16 41 ((S1 37 0) - 1 : Int32).toNatClampNeg)) 240 ∧ (∀ S18 : MST, S18 = ms S16 42 (upd (S16 42) (((15 * ((S1 37 0) - 1)) + 7) + (S16 41 ((S1 37 0) - 1 : Int32).toNatClampNeg) : Int32).toNatClampNeg a1) → (vp_in ((S1 37 0) - 1) 16 ∧ (vp_in ((S1 37 0) - 1) 16 ∧ (∀ S20 : MST, S20 = ms S18 41 (upd (S18 41) ((S1 37 0) - 1 : Int32).toNatClampNeg ((S18 41 ((S1 37 0) - 1 : Int32).toNatClampNeg) + 1)) → (vp_in ((S1 37 0) - 1) 16 ∧ (∀ S21 : MST, S21 = ms S20 39 (upd (S20 39) ((S1 37 0) - 1 : Int32).toNatClampNeg ((S1 39 ((S1 37 0) - 1 : Int32).toNatClampNeg) + 1)) → (Post S21)))))))))))))))))))) ∧ ((((S1 37 0) : Int32) = 0) → (∀ S22 : MST, S22 = ms S1 49 (fun _ => a1) → (∀ S23 : MST, S23 = ms S22 43 (fun _ => 2) → (Post S23)))))
def zw_zd_X12_returns_w0 : List Cond := [.fieldLink RX12 236 "TemplateForgeModel" "open" "I", .fieldLink RX12 117 "TemplateForgeModel" "frameCode" "[I", .fieldLink RX12 114 "TemplateForgeModel" "frameAt" "[I", .fieldLink RX12 123 "TemplateForgeModel" "register" "[I", .fieldLink RX12 84 "TemplateForgeModel" "partD" "[I", .fieldLink RX12 22 "TemplateForgeModel" "operand" "[I", .fieldLink RX12 111 "TemplateForgeModel" "frameMethod" "[I", .fieldLink RX12 120 "TemplateForgeModel" "frameDepth" "[I", .fieldLink RX12 7 "TemplateForgeModel" "args" "[I", .fieldLink RX12 259 "TemplateForgeModel" "answer" "I", .fieldLink RX12 233 "TemplateForgeModel" "outcome" "I"]
def zw_zd_X12_returns : List Cond := .code yX12_returns cX12_returns 5 none :: ((zw_zd_X12_returns_w0) ++ wsX120)
set_option maxHeartbeats 16000000 in
set_option maxRecDepth 100000 in
theorem zd_X12_returns (l : Launch) (D : va_G) (cI cZ cP cF : Nat) (h0 : Nat) (q : Nat → Nat) (S : MST) (a1 : Int32) (sz : Nat) (Post : MST → Prop) (h : wp_X12_returns S a1 Post) : Met l yX12_returns zw_zd_X12_returns ({ frames := 0, cells := 0, slots := 0, locals := 0 }) (va_Pc [.ref h0, .int a1] (fun U => U.heap.size = sz ∧ va_P D vwCl (mW cI cZ h0 q S) U.heap ∧ zE D cI cZ cP cF U ∧ va_D (fun _ => True) (mW cI cZ h0 q S))) (va_Qv (fun S' => Post S') (fun (S' : MST) t => va_P D vwCl (mW cI cZ h0 q S') t.heap ∧ va_D (va_A (mW cI cZ h0 q S) sz) (mW cI cZ h0 q S')) (va_A (mW cI cZ h0 q S) sz)) 0 0 (va_A (mW cI cZ h0 q S) sz) := by
  unfold wp_X12_returns at h
  refine Met.ofW (cc := cX12_returns) (maxL := 5) (ret := none) (by decide) rfl ?_
  intro p e s m args below meth c s₁ B hml hv
  obtain ⟨rfl, hsz, hP, hE, hD0⟩ := hv
  have hx := B.exec
  have hb := B.bytes
  have hr := B.returns
  have hts := atoms_spec (ws := zw_zd_X12_returns) B.pre
  have hown : s.vm.findClass RX12 = some m.cls := findClass_of_methodNamed B.named
  have hlocks := B.notSynchronized
  have hK := hE.k
  subst hsz
  have hD := hD0.self (sz := s.heap.size)
  generalize hAe : va_A (mW cI cZ h0 q S) s.heap.size = A at hD ⊢
  have hA : ∀ q : Nat, s.heap.size ≤ q → A q := fun q h => by rw [← hAe]; exact Or.inr h
  have hl := lv_entry ([.ref h0, .int a1]) (n := 5) (Nat.le_of_ble_eq_true rfl)
  rw [lg_entry_eq]
  generalize (lg_sl ([.ref h0, .int a1]) ++ List.replicate (5 - (lg_sl ([.ref h0, .int a1])).length) Slot.unset).toArray = ls at hl ⊢
  have hl : lv_has ls 5 [(0, .ref h0), (1, .int a1)] := hl
  have key : ∀ (H : Heap) (locs : List Loc), va_P D vwCl (mW cI cZ h0 q S) H → va_S A s.heap H locs → W p l e (headSpec zw_zd_X12_returns ({ frames := 0, cells := 0, slots := 0, locals := 0 })).room s m ([.ref h0, .int a1] : List Value).toArray below meth c H locs 0 0 (MQ below (va_Qv (fun S' => Post S') (fun (S' : MST) t => va_P D vwCl (mW cI cZ h0 q S') t.heap ∧ va_D A (mW cI cZ h0 q S')) A) ([.ref h0, .int a1] : List Value).toArray s 0 0 A) (F0 m 0 ls []) := by
    intro H locs hP hS
    refine lv_aload_n hx hb dX12_returns_0 rfl (lv_at hl 0 rfl) ?_
    refine lv_dup hx hb dX12_returns_1 rfl ?_
    refine va_get (D := D) (ci := 12) (v := .int (S 37 0)) (C := RX12) (T := TX12) (N := 52) hx hb hts (fun _ h => List.mem_cons_of_mem _ (List.mem_append_right _ h)) hown hK hP 0 rfl rfl 37 (by decide) (hts (.fieldLink RX12 236 "TemplateForgeModel" "open" "I") (List.mem_of_getElem? (i := 1) rfl)) (fun _ h9 => h9) rfl dX12_returns_2 ?_
    refine lv_iconst (v := 1) hx hb dX12_returns_5 (by decide) ?_
    refine lv_isub hx hb dX12_returns_6 ?_
    refine va_put (D := D) (ci := 12) (v := .int ((S 37 0) - 1)) (ty := .int) (C := RX12) (T := TX12) (N := 52) hx hb hts (fun _ h => List.mem_cons_of_mem _ (List.mem_append_right _ h)) tyX12 tyX12_ok nmX12 hown hK hP hD hS 0 rfl rfl 37 (by decide) (hts (.fieldLink RX12 236 "TemplateForgeModel" "open" "I") (List.mem_of_getElem? (i := 1) rfl)) (fun _ h9 => h9) rfl (by decide +kernel) rfl rfl (Nat.le_of_ble_eq_true rfl) dX12_returns_7 (fun H locs hP hD hS => ?_)
    obtain ⟨S1, eS1⟩ : ∃ z, z = ms S 37 (fun _ => (S 37 0) - 1) := ⟨_, rfl⟩
    have hP : va_P D vwCl (mW cI cZ h0 q S1) H := by rw [eS1]; exact hP
    have hD : va_D A (mW cI cZ h0 q S1) := by rw [eS1]; exact hD
    have h := h S1 eS1
    refine lv_aload_n hx hb dX12_returns_10 rfl (lv_at hl 0 rfl) ?_
    refine va_get (D := D) (ci := 12) (v := .int (S1 37 0)) (C := RX12) (T := TX12) (N := 52) hx hb hts (fun _ h => List.mem_cons_of_mem _ (List.mem_append_right _ h)) hown hK hP 0 rfl rfl 37 (by decide) (hts (.fieldLink RX12 236 "TemplateForgeModel" "open" "I") (List.mem_of_getElem? (i := 1) rfl)) (fun _ h9 => h9) rfl dX12_returns_11 ?_
    refine lv_if_ne (tgt := 28) hx hb dX12_returns_14 (by decide) (fun c_2 => ?_) (fun c_2 => ?_)
    · have h := h.1 c_2
      refine lv_aload_n hx hb dX12_returns_28 rfl (lv_at hl 0 rfl) ?_
      refine va_get (D := D) (ci := 12) (v := .int (S1 37 0)) (C := RX12) (T := TX12) (N := 52) hx hb hts (fun _ h => List.mem_cons_of_mem _ (List.mem_append_right _ h)) hown hK hP 0 rfl rfl 37 (by decide) (hts (.fieldLink RX12 236 "TemplateForgeModel" "open" "I") (List.mem_of_getElem? (i := 1) rfl)) (fun _ h9 => h9) rfl dX12_returns_29 ?_
      refine lv_iconst (v := 1) hx hb dX12_returns_32 (by decide) ?_
      refine lv_isub hx hb dX12_returns_33 ?_
      refine lv_istore_n (lv' := [(2, .int ((S1 37 0) - 1)), (0, .ref h0), (1, .int a1)]) hx hb dX12_returns_34 rfl hl (by decide) rfl (fun ls hl => ?_)
      refine lv_aload_n hx hb dX12_returns_35 rfl (lv_at hl 1 rfl) ?_
      refine va_get (D := D) (ci := 12) (v := .ref (q 40)) (C := RX12) (T := TX12) (N := 52) hx hb hts (fun _ h => List.mem_cons_of_mem _ (List.mem_append_right _ h)) hown hK hP 0 rfl rfl 40 (by decide) (hts (.fieldLink RX12 117 "TemplateForgeModel" "frameCode" "[I") (List.mem_of_getElem? (i := 2) rfl)) (fun _ h9 => h9) rfl dX12_returns_36 ?_
      refine lv_iload_n hx hb dX12_returns_39 rfl (lv_at hl 0 rfl) ?_
      have hin_3 := h.1
      have h := h.2
      refine va_iald hx hb hK hP 36 0 rfl rfl hin_3 dX12_returns_40 ?_
      refine lv_if_ge (tgt := 127) hx hb dX12_returns_41 (by decide) (fun c_4 => ?_) (fun c_4 => ?_)
      · have h := h.1 c_4
        refine lv_sipush (v := 640) hx hb dX12_returns_127 (by decide) ?_
        refine lv_aload_n hx hb dX12_returns_130 rfl (lv_at hl 1 rfl) ?_
        refine va_get (D := D) (ci := 12) (v := .ref (q 40)) (C := RX12) (T := TX12) (N := 52) hx hb hts (fun _ h => List.mem_cons_of_mem _ (List.mem_append_right _ h)) hown hK hP 0 rfl rfl 40 (by decide) (hts (.fieldLink RX12 117 "TemplateForgeModel" "frameCode" "[I") (List.mem_of_getElem? (i := 2) rfl)) (fun _ h9 => h9) rfl dX12_returns_131 ?_
        refine lv_iload_n hx hb dX12_returns_134 rfl (lv_at hl 0 rfl) ?_
        have hin_5 := h.1
        have h := h.2
        refine va_iald hx hb hK hP 36 0 rfl rfl hin_5 dX12_returns_135 ?_
        refine lv_imul hx hb dX12_returns_136 ?_
        refine lv_aload_n hx hb dX12_returns_137 rfl (lv_at hl 1 rfl) ?_
        refine va_get (D := D) (ci := 12) (v := .ref (q 39)) (C := RX12) (T := TX12) (N := 52) hx hb hts (fun _ h => List.mem_cons_of_mem _ (List.mem_append_right _ h)) hown hK hP 0 rfl rfl 39 (by decide) (hts (.fieldLink RX12 114 "TemplateForgeModel" "frameAt" "[I") (List.mem_of_getElem? (i := 3) rfl)) (fun _ h9 => h9) rfl dX12_returns_138 ?_
        refine lv_iload_n hx hb dX12_returns_141 rfl (lv_at hl 0 rfl) ?_
        have hin_6 := h.1
        have h := h.2
        refine va_iald hx hb hK hP 35 0 rfl rfl hin_6 dX12_returns_142 ?_
        refine lv_iadd hx hb dX12_returns_143 ?_
        refine lv_istore_n (lv' := [(3, .int ((640 * (S1 40 ((S1 37 0) - 1 : Int32).toNatClampNeg)) + (S1 39 ((S1 37 0) - 1 : Int32).toNatClampNeg))), (2, .int ((S1 37 0) - 1)), (0, .ref h0), (1, .int a1)]) hx hb dX12_returns_144 rfl hl (by decide) rfl (fun ls hl => ?_)
        refine lv_aload_n hx hb dX12_returns_145 rfl (lv_at hl 2 rfl) ?_
        refine va_get (D := D) (ci := 12) (v := .ref (q 42)) (C := RX12) (T := TX12) (N := 52) hx hb hts (fun _ h => List.mem_cons_of_mem _ (List.mem_append_right _ h)) hown hK hP 0 rfl rfl 42 (by decide) (hts (.fieldLink RX12 123 "TemplateForgeModel" "register" "[I") (List.mem_of_getElem? (i := 4) rfl)) (fun _ h9 => h9) rfl dX12_returns_146 ?_
        refine lv_bipush (v := 15) hx hb dX12_returns_149 (by decide) ?_
        refine lv_iload_n hx hb dX12_returns_151 rfl (lv_at hl 1 rfl) ?_
        refine lv_imul hx hb dX12_returns_152 ?_
        refine lv_aload_n hx hb dX12_returns_153 rfl (lv_at hl 2 rfl) ?_
        refine va_get (D := D) (ci := 12) (v := .ref (q 26)) (C := RX12) (T := TX12) (N := 52) hx hb hts (fun _ h => List.mem_cons_of_mem _ (List.mem_append_right _ h)) hown hK hP 0 rfl rfl 26 (by decide) (hts (.fieldLink RX12 84 "TemplateForgeModel" "partD" "[I") (List.mem_of_getElem? (i := 5) rfl)) (fun _ h9 => h9) rfl dX12_returns_154 ?_
        refine lv_iload_n hx hb dX12_returns_157 rfl (lv_at hl 0 rfl) ?_
        have hin_7 := h.1
        have h := h.2
        refine va_iald hx hb hK hP 25 0 rfl rfl hin_7 dX12_returns_158 ?_
        refine lv_iadd hx hb dX12_returns_159 ?_
        refine lv_iload_n hx hb dX12_returns_160 rfl (lv_at hl 3 rfl) ?_
        have hin_8 := h.1
        have h := h.2
        refine va_iast hx hb hK hP hD hS 38 0 rfl rfl hin_8 dX12_returns_161 (fun H locs hP hD hS => ?_)
        obtain ⟨S8, eS8⟩ : ∃ z, z = ms S1 42 (upd (S1 42) ((15 * ((S1 37 0) - 1)) + (S1 26 ((640 * (S1 40 ((S1 37 0) - 1 : Int32).toNatClampNeg)) + (S1 39 ((S1 37 0) - 1 : Int32).toNatClampNeg) : Int32).toNatClampNeg) : Int32).toNatClampNeg a1) := ⟨_, rfl⟩
        have hP : va_P D vwCl (mW cI cZ h0 q S8) H := by rw [eS8]; exact hP
        have hD : va_D A (mW cI cZ h0 q S8) := by rw [eS8]; exact hD
        have h := h S8 eS8
        refine lv_aload_n hx hb dX12_returns_162 rfl (lv_at hl 2 rfl) ?_
        refine va_get (D := D) (ci := 12) (v := .ref (q 39)) (C := RX12) (T := TX12) (N := 52) hx hb hts (fun _ h => List.mem_cons_of_mem _ (List.mem_append_right _ h)) hown hK hP 0 rfl rfl 39 (by decide) (hts (.fieldLink RX12 114 "TemplateForgeModel" "frameAt" "[I") (List.mem_of_getElem? (i := 3) rfl)) (fun _ h9 => h9) rfl dX12_returns_163 ?_
        refine lv_iload_n hx hb dX12_returns_166 rfl (lv_at hl 1 rfl) ?_
        refine lv_dup2_11 hx hb dX12_returns_167 rfl rfl ?_
        have hin_9 := h.1
        have h := h.2
        refine va_iald hx hb hK hP 35 0 rfl rfl hin_9 dX12_returns_168 ?_
        refine lv_iconst (v := 1) hx hb dX12_returns_169 (by decide) ?_
        refine lv_iadd hx hb dX12_returns_170 ?_
        have hin_10 := h.1
        have h := h.2
        refine va_iast hx hb hK hP hD hS 35 0 rfl rfl hin_10 dX12_returns_171 (fun H locs hP hD hS => ?_)
        obtain ⟨S10, eS10⟩ : ∃ z, z = ms S8 39 (upd (S8 39) ((S1 37 0) - 1 : Int32).toNatClampNeg ((S8 39 ((S1 37 0) - 1 : Int32).toNatClampNeg) + 1)) := ⟨_, rfl⟩
        have hP : va_P D vwCl (mW cI cZ h0 q S10) H := by rw [eS10]; exact hP
        have hD : va_D A (mW cI cZ h0 q S10) := by rw [eS10]; exact hD
        have h := h S10 eS10
        exact W.vret hx hb hr (fun t ht hW => ⟨⟨S10, rfl, h, by rw [ht]; exact hP, hD⟩, hS.F ht⟩) hS.2.2 dX12_returns_172
      · have h := h.2 c_4
        refine lv_aload_n hx hb dX12_returns_44 rfl (lv_at hl 1 rfl) ?_
        refine va_get (D := D) (ci := 12) (v := .ref (q 39)) (C := RX12) (T := TX12) (N := 52) hx hb hts (fun _ h => List.mem_cons_of_mem _ (List.mem_append_right _ h)) hown hK hP 0 rfl rfl 39 (by decide) (hts (.fieldLink RX12 114 "TemplateForgeModel" "frameAt" "[I") (List.mem_of_getElem? (i := 3) rfl)) (fun _ h9 => h9) rfl dX12_returns_45 ?_
        refine lv_iload_n hx hb dX12_returns_48 rfl (lv_at hl 0 rfl) ?_
        have hin_11 := h.1
        have h := h.2
        refine va_iald hx hb hK hP 35 0 rfl rfl hin_11 dX12_returns_49 ?_
        refine lv_istore_n (lv' := [(3, .int (S1 39 ((S1 37 0) - 1 : Int32).toNatClampNeg)), (2, .int ((S1 37 0) - 1)), (0, .ref h0), (1, .int a1)]) hx hb dX12_returns_50 rfl hl (by decide) rfl (fun ls hl => ?_)
        refine lv_aload_n hx hb dX12_returns_51 rfl (lv_at hl 2 rfl) ?_
        refine va_get (D := D) (ci := 12) (v := .ref (q 5)) (C := RX12) (T := TX12) (N := 52) hx hb hts (fun _ h => List.mem_cons_of_mem _ (List.mem_append_right _ h)) hown hK hP 0 rfl rfl 5 (by decide) (hts (.fieldLink RX12 22 "TemplateForgeModel" "operand" "[I") (List.mem_of_getElem? (i := 6) rfl)) (fun _ h9 => h9) rfl dX12_returns_52 ?_
        refine lv_bipush (v := 60) hx hb dX12_returns_55 (by decide) ?_
        refine lv_aload_n hx hb dX12_returns_57 rfl (lv_at hl 2 rfl) ?_
        refine va_get (D := D) (ci := 12) (v := .ref (q 38)) (C := RX12) (T := TX12) (N := 52) hx hb hts (fun _ h => List.mem_cons_of_mem _ (List.mem_append_right _ h)) hown hK hP 0 rfl rfl 38 (by decide) (hts (.fieldLink RX12 111 "TemplateForgeModel" "frameMethod" "[I") (List.mem_of_getElem? (i := 7) rfl)) (fun _ h9 => h9) rfl dX12_returns_58 ?_
        refine lv_iload_n hx hb dX12_returns_61 rfl (lv_at hl 1 rfl) ?_
        have hin_12 := h.1
        have h := h.2
        refine va_iald hx hb hK hP 34 0 rfl rfl hin_12 dX12_returns_62 ?_
        refine lv_imul hx hb dX12_returns_63 ?_
        refine lv_iload_n hx hb dX12_returns_64 rfl (lv_at hl 0 rfl) ?_
        refine lv_iadd hx hb dX12_returns_65 ?_
        have hin_13 := h.1
        have h := h.2
        refine va_iald hx hb hK hP 5 0 rfl rfl hin_13 dX12_returns_66 ?_
        refine lv_istore (lv' := [(4, .int (S1 5 ((60 * (S1 38 ((S1 37 0) - 1 : Int32).toNatClampNeg)) + (S1 39 ((S1 37 0) - 1 : Int32).toNatClampNeg) : Int32).toNatClampNeg)), (3, .int (S1 39 ((S1 37 0) - 1 : Int32).toNatClampNeg)), (2, .int ((S1 37 0) - 1)), (0, .ref h0), (1, .int a1)]) hx hb dX12_returns_67 hl (by decide) rfl (fun ls hl => ?_)
        refine lv_aload_n hx hb dX12_returns_69 rfl (lv_at hl 3 rfl) ?_
        refine va_get (D := D) (ci := 12) (v := .ref (q 41)) (C := RX12) (T := TX12) (N := 52) hx hb hts (fun _ h => List.mem_cons_of_mem _ (List.mem_append_right _ h)) hown hK hP 0 rfl rfl 41 (by decide) (hts (.fieldLink RX12 120 "TemplateForgeModel" "frameDepth" "[I") (List.mem_of_getElem? (i := 8) rfl)) (fun _ h9 => h9) rfl dX12_returns_70 ?_
        refine lv_iload_n hx hb dX12_returns_73 rfl (lv_at hl 2 rfl) ?_
        refine lv_dup2_11 hx hb dX12_returns_74 rfl rfl ?_
        have hin_14 := h.1
        have h := h.2
        refine va_iald hx hb hK hP 37 0 rfl rfl hin_14 dX12_returns_75 ?_
        refine lv_aload_n hx hb dX12_returns_76 rfl (lv_at hl 3 rfl) ?_
        refine va_get (D := D) (ci := 12) (v := .ref (q 1)) (C := RX12) (T := TX12) (N := 52) hx hb hts (fun _ h => List.mem_cons_of_mem _ (List.mem_append_right _ h)) hown hK hP 0 rfl rfl 1 (by decide) (hts (.fieldLink RX12 7 "TemplateForgeModel" "args" "[I") (List.mem_of_getElem? (i := 9) rfl)) (fun _ h9 => h9) rfl dX12_returns_77 ?_
        refine lv_iload hx hb dX12_returns_80 (lv_at hl 0 rfl) ?_
        have hin_15 := h.1
        have h := h.2
        refine va_iald hx hb hK hP 1 0 rfl rfl hin_15 dX12_returns_82 ?_
        refine lv_isub hx hb dX12_returns_83 ?_
        have hin_16 := h.1
        have h := h.2
        refine va_iast hx hb hK hP hD hS 37 0 rfl rfl hin_16 dX12_returns_84 (fun H locs hP hD hS => ?_)
        obtain ⟨S16, eS16⟩ : ∃ z, z = ms S1 41 (upd (S1 41) ((S1 37 0) - 1 : Int32).toNatClampNeg ((S1 41 ((S1 37 0) - 1 : Int32).toNatClampNeg) - (S1 1 (S1 5 ((60 * (S1 38 ((S1 37 0) - 1 : Int32).toNatClampNeg)) + (S1 39 ((S1 37 0) - 1 : Int32).toNatClampNeg) : Int32).toNatClampNeg : Int32).toNatClampNeg))) := ⟨_, rfl⟩
        have hP : va_P D vwCl (mW cI cZ h0 q S16) H := by rw [eS16]; exact hP
        have hD : va_D A (mW cI cZ h0 q S16) := by rw [eS16]; exact hD
        have h := h S16 eS16
        refine lv_aload_n hx hb dX12_returns_85 rfl (lv_at hl 3 rfl) ?_
        refine va_get (D := D) (ci := 12) (v := .ref (q 42)) (C := RX12) (T := TX12) (N := 52) hx hb hts (fun _ h => List.mem_cons_of_mem _ (List.mem_append_right _ h)) hown hK hP 0 rfl rfl 42 (by decide) (hts (.fieldLink RX12 123 "TemplateForgeModel" "register" "[I") (List.mem_of_getElem? (i := 4) rfl)) (fun _ h9 => h9) rfl dX12_returns_86 ?_
        refine lv_bipush (v := 15) hx hb dX12_returns_89 (by decide) ?_
        refine lv_iload_n hx hb dX12_returns_91 rfl (lv_at hl 2 rfl) ?_
        refine lv_imul hx hb dX12_returns_92 ?_
        refine lv_bipush (v := 7) hx hb dX12_returns_93 (by decide) ?_
        refine lv_iadd hx hb dX12_returns_95 ?_
        refine lv_aload_n hx hb dX12_returns_96 rfl (lv_at hl 3 rfl) ?_
        refine va_get (D := D) (ci := 12) (v := .ref (q 41)) (C := RX12) (T := TX12) (N := 52) hx hb hts (fun _ h => List.mem_cons_of_mem _ (List.mem_append_right _ h)) hown hK hP 0 rfl rfl 41 (by decide) (hts (.fieldLink RX12 120 "TemplateForgeModel" "frameDepth" "[I") (List.mem_of_getElem? (i := 8) rfl)) (fun _ h9 => h9) rfl dX12_returns_97 ?_
        refine lv_iload_n hx hb dX12_returns_100 rfl (lv_at hl 2 rfl) ?_
        have hin_17 := h.1
        have h := h.2
        refine va_iald hx hb hK hP 37 0 rfl rfl hin_17 dX12_returns_101 ?_
        refine lv_iadd hx hb dX12_returns_102 ?_
        refine lv_iload_n hx hb dX12_returns_103 rfl (lv_at hl 4 rfl) ?_
        have hin_18 := h.1
        have h := h.2
        refine va_iast hx hb hK hP hD hS 38 0 rfl rfl hin_18 dX12_returns_104 (fun H locs hP hD hS => ?_)
        obtain ⟨S18, eS18⟩ : ∃ z, z = ms S16 42 (upd (S16 42) (((15 * ((S1 37 0) - 1)) + 7) + (S16 41 ((S1 37 0) - 1 : Int32).toNatClampNeg) : Int32).toNatClampNeg a1) := ⟨_, rfl⟩
        have hP : va_P D vwCl (mW cI cZ h0 q S18) H := by rw [eS18]; exact hP
        have hD : va_D A (mW cI cZ h0 q S18) := by rw [eS18]; exact hD
        have h := h S18 eS18
        refine lv_aload_n hx hb dX12_returns_105 rfl (lv_at hl 3 rfl) ?_
        refine va_get (D := D) (ci := 12) (v := .ref (q 41)) (C := RX12) (T := TX12) (N := 52) hx hb hts (fun _ h => List.mem_cons_of_mem _ (List.mem_append_right _ h)) hown hK hP 0 rfl rfl 41 (by decide) (hts (.fieldLink RX12 120 "TemplateForgeModel" "frameDepth" "[I") (List.mem_of_getElem? (i := 8) rfl)) (fun _ h9 => h9) rfl dX12_returns_106 ?_
        refine lv_iload_n hx hb dX12_returns_109 rfl (lv_at hl 2 rfl) ?_
        refine lv_dup2_11 hx hb dX12_returns_110 rfl rfl ?_
        have hin_19 := h.1
        have h := h.2
        refine va_iald hx hb hK hP 37 0 rfl rfl hin_19 dX12_returns_111 ?_
        refine lv_iconst (v := 1) hx hb dX12_returns_112 (by decide) ?_
        refine lv_iadd hx hb dX12_returns_113 ?_
        have hin_20 := h.1
        have h := h.2
        refine va_iast hx hb hK hP hD hS 37 0 rfl rfl hin_20 dX12_returns_114 (fun H locs hP hD hS => ?_)
        obtain ⟨S20, eS20⟩ : ∃ z, z = ms S18 41 (upd (S18 41) ((S1 37 0) - 1 : Int32).toNatClampNeg ((S18 41 ((S1 37 0) - 1 : Int32).toNatClampNeg) + 1)) := ⟨_, rfl⟩
        have hP : va_P D vwCl (mW cI cZ h0 q S20) H := by rw [eS20]; exact hP
        have hD : va_D A (mW cI cZ h0 q S20) := by rw [eS20]; exact hD
        have h := h S20 eS20
        refine lv_aload_n hx hb dX12_returns_115 rfl (lv_at hl 3 rfl) ?_
        refine va_get (D := D) (ci := 12) (v := .ref (q 39)) (C := RX12) (T := TX12) (N := 52) hx hb hts (fun _ h => List.mem_cons_of_mem _ (List.mem_append_right _ h)) hown hK hP 0 rfl rfl 39 (by decide) (hts (.fieldLink RX12 114 "TemplateForgeModel" "frameAt" "[I") (List.mem_of_getElem? (i := 3) rfl)) (fun _ h9 => h9) rfl dX12_returns_116 ?_
        refine lv_iload_n hx hb dX12_returns_119 rfl (lv_at hl 2 rfl) ?_
        refine lv_iload_n hx hb dX12_returns_120 rfl (lv_at hl 1 rfl) ?_
        refine lv_iconst (v := 1) hx hb dX12_returns_121 (by decide) ?_
        refine lv_iadd hx hb dX12_returns_122 ?_
        have hin_21 := h.1
        have h := h.2
        refine va_iast hx hb hK hP hD hS 35 0 rfl rfl hin_21 dX12_returns_123 (fun H locs hP hD hS => ?_)
        obtain ⟨S21, eS21⟩ : ∃ z, z = ms S20 39 (upd (S20 39) ((S1 37 0) - 1 : Int32).toNatClampNeg ((S1 39 ((S1 37 0) - 1 : Int32).toNatClampNeg) + 1)) := ⟨_, rfl⟩
        have hP : va_P D vwCl (mW cI cZ h0 q S21) H := by rw [eS21]; exact hP
        have hD : va_D A (mW cI cZ h0 q S21) := by rw [eS21]; exact hD
        have h := h S21 eS21
        refine lv_goto (tgt := 172) hx hb dX12_returns_124 (by decide) ?_
        exact W.vret hx hb hr (fun t ht hW => ⟨⟨S21, rfl, h, by rw [ht]; exact hP, hD⟩, hS.F ht⟩) hS.2.2 dX12_returns_172
    · have h := h.2 c_2
      refine lv_aload_n hx hb dX12_returns_17 rfl (lv_at hl 0 rfl) ?_
      refine lv_iload_n hx hb dX12_returns_18 rfl (lv_at hl 1 rfl) ?_
      refine va_put (D := D) (ci := 12) (v := .int a1) (ty := .int) (C := RX12) (T := TX12) (N := 52) hx hb hts (fun _ h => List.mem_cons_of_mem _ (List.mem_append_right _ h)) tyX12 tyX12_ok nmX12 hown hK hP hD hS 0 rfl rfl 49 (by decide) (hts (.fieldLink RX12 259 "TemplateForgeModel" "answer" "I") (List.mem_of_getElem? (i := 10) rfl)) (fun _ h9 => h9) rfl (by decide +kernel) rfl rfl (Nat.le_of_ble_eq_true rfl) dX12_returns_19 (fun H locs hP hD hS => ?_)
      obtain ⟨S22, eS22⟩ : ∃ z, z = ms S1 49 (fun _ => a1) := ⟨_, rfl⟩
      have hP : va_P D vwCl (mW cI cZ h0 q S22) H := by rw [eS22]; exact hP
      have hD : va_D A (mW cI cZ h0 q S22) := by rw [eS22]; exact hD
      have h := h S22 eS22
      refine lv_aload_n hx hb dX12_returns_22 rfl (lv_at hl 0 rfl) ?_
      refine lv_iconst (v := 2) hx hb dX12_returns_23 (by decide) ?_
      refine va_put (D := D) (ci := 12) (v := .int 2) (ty := .int) (C := RX12) (T := TX12) (N := 52) hx hb hts (fun _ h => List.mem_cons_of_mem _ (List.mem_append_right _ h)) tyX12 tyX12_ok nmX12 hown hK hP hD hS 0 rfl rfl 43 (by decide) (hts (.fieldLink RX12 233 "TemplateForgeModel" "outcome" "I") (List.mem_of_getElem? (i := 11) rfl)) (fun _ h9 => h9) rfl (by decide +kernel) rfl rfl (Nat.le_of_ble_eq_true rfl) dX12_returns_24 (fun H locs hP hD hS => ?_)
      obtain ⟨S23, eS23⟩ : ∃ z, z = ms S22 43 (fun _ => 2) := ⟨_, rfl⟩
      have hP : va_P D vwCl (mW cI cZ h0 q S23) H := by rw [eS23]; exact hP
      have hD : va_D A (mW cI cZ h0 q S23) := by rw [eS23]; exact hD
      have h := h S23 eS23
      exact W.vret hx hb hr (fun t ht hW => ⟨⟨S23, rfl, h, by rw [ht]; exact hP, hD⟩, hS.F ht⟩) hS.2.2 dX12_returns_27
  exact key _ _ hP va_S.rf
def wl_X12_makesRow_23 (K_46 : MST → Prop) (Post : MST → Int32 → Prop) : Nat → MST → Int32 → Int32 → Int32 → Prop
  | 0, _, _, _, _ => False
  | n_23 + 1, S_23, x23_1, x23_2, x23_3 => ((x23_2 ≤ x23_3) → ((K_46 S_23 ))) ∧ ((¬ (x23_2 ≤ x23_3)) → (vp_in ((20 * x23_1) + x23_3) 80 ∧ (∀ S5 : MST, S5 = ms S_23 14 (upd (S_23 14) ((20 * x23_1) + x23_3 : Int32).toNatClampNeg 0) → (wl_X12_makesRow_23 K_46 Post n_23 S5 x23_1 x23_2 (x23_3 + 1)))))
def wp_X12_makesRow (S : MST) (a1 : Int32) (a2 : Int32) (Post : MST → Int32 → Prop) : Prop :=
  ((0 ≤ a2) → ((((a2 : Int32) ≤ 20) → (vp_in a1 4 ∧ (∀ S3 : MST, S3 = ms S 13 (upd (S 13) (a1 : Int32).toNatClampNeg a2) → (∃ n_23, wl_X12_makesRow_23 (fun S_46 => Post S_46 0) Post n_23 S3 a1 a2 0)))) ∧ ((¬ ((a2 : Int32) ≤ 20)) → (Post S 5)))) ∧ ((¬ (0 ≤ a2)) → (Post S 4))
def zw_zd_X12_makesRow_w0 : List Cond := [.fieldLink RX12 44 "TemplateForgeModel" "sizes" "[I", .fieldLink RX12 47 "TemplateForgeModel" "rows" "[I"]
def zw_zd_X12_makesRow : List Cond := .code yX12_makesRow cX12_makesRow 4 (some .int) :: ((zw_zd_X12_makesRow_w0) ++ wsX120)
set_option maxHeartbeats 16000000 in
set_option maxRecDepth 100000 in
theorem zd_X12_makesRow (l : Launch) (D : va_G) (cI cZ cP cF : Nat) (h0 : Nat) (q : Nat → Nat) (S : MST) (a1 : Int32) (a2 : Int32) (sz : Nat) (Post : MST → Int32 → Prop) (h : wp_X12_makesRow S a1 a2 Post) : Met l yX12_makesRow zw_zd_X12_makesRow ({ frames := 0, cells := 0, slots := 0, locals := 0 }) (va_Pc [.ref h0, .int a1, .int a2] (fun U => U.heap.size = sz ∧ va_P D vwCl (mW cI cZ h0 q S) U.heap ∧ zE D cI cZ cP cF U ∧ va_D (fun _ => True) (mW cI cZ h0 q S))) (va_Qi (fun r S' => Post S' r) (fun (S' : MST) t => va_P D vwCl (mW cI cZ h0 q S') t.heap ∧ va_D (va_A (mW cI cZ h0 q S) sz) (mW cI cZ h0 q S')) (va_A (mW cI cZ h0 q S) sz)) 0 0 (va_A (mW cI cZ h0 q S) sz) := by
  unfold wp_X12_makesRow at h
  refine Met.ofW (cc := cX12_makesRow) (maxL := 4) (ret := (some .int)) (by decide) rfl ?_
  intro p e s m args below meth c s₁ B hml hv
  obtain ⟨rfl, hsz, hP, hE, hD0⟩ := hv
  have hx := B.exec
  have hb := B.bytes
  have hr := B.returns
  have hts := atoms_spec (ws := zw_zd_X12_makesRow) B.pre
  have hown : s.vm.findClass RX12 = some m.cls := findClass_of_methodNamed B.named
  have hlocks := B.notSynchronized
  have hK := hE.k
  subst hsz
  have hD := hD0.self (sz := s.heap.size)
  generalize hAe : va_A (mW cI cZ h0 q S) s.heap.size = A at hD ⊢
  have hA : ∀ q : Nat, s.heap.size ≤ q → A q := fun q h => by rw [← hAe]; exact Or.inr h
  have hl := lv_entry ([.ref h0, .int a1, .int a2]) (n := 4) (Nat.le_of_ble_eq_true rfl)
  rw [lg_entry_eq]
  generalize (lg_sl ([.ref h0, .int a1, .int a2]) ++ List.replicate (4 - (lg_sl ([.ref h0, .int a1, .int a2])).length) Slot.unset).toArray = ls at hl ⊢
  have hl : lv_has ls 4 [(0, .ref h0), (1, .int a1), (2, .int a2)] := hl
  have key : ∀ (H : Heap) (locs : List Loc), va_P D vwCl (mW cI cZ h0 q S) H → va_S A s.heap H locs → W p l e (headSpec zw_zd_X12_makesRow ({ frames := 0, cells := 0, slots := 0, locals := 0 })).room s m ([.ref h0, .int a1, .int a2] : List Value).toArray below meth c H locs 0 0 (MQ below (va_Qi (fun r S' => Post S' r) (fun (S' : MST) t => va_P D vwCl (mW cI cZ h0 q S') t.heap ∧ va_D A (mW cI cZ h0 q S')) A) ([.ref h0, .int a1, .int a2] : List Value).toArray s 0 0 A) (F0 m 0 ls []) := by
    intro H locs hP hS
    refine lv_iload_n hx hb dX12_makesRow_0 rfl (lv_at hl 2 rfl) ?_
    refine lv_if_ge (tgt := 6) hx hb dX12_makesRow_1 (by decide) (fun c_1 => ?_) (fun c_1 => ?_)
    · have h := h.1 c_1
      refine lv_iload_n hx hb dX12_makesRow_6 rfl (lv_at hl 2 rfl) ?_
      refine lv_bipush (v := 20) hx hb dX12_makesRow_7 (by decide) ?_
      refine lv_icmp_le (tgt := 14) hx hb dX12_makesRow_9 (by decide) (fun c_2 => ?_) (fun c_2 => ?_)
      · have h := h.1 c_2
        refine lv_aload_n hx hb dX12_makesRow_14 rfl (lv_at hl 0 rfl) ?_
        refine va_get (D := D) (ci := 12) (v := .ref (q 13)) (C := RX12) (T := TX12) (N := 52) hx hb hts (fun _ h => List.mem_cons_of_mem _ (List.mem_append_right _ h)) hown hK hP 0 rfl rfl 13 (by decide) (hts (.fieldLink RX12 44 "TemplateForgeModel" "sizes" "[I") (List.mem_of_getElem? (i := 1) rfl)) (fun _ h9 => h9) rfl dX12_makesRow_15 ?_
        refine lv_iload_n hx hb dX12_makesRow_18 rfl (lv_at hl 1 rfl) ?_
        refine lv_iload_n hx hb dX12_makesRow_19 rfl (lv_at hl 2 rfl) ?_
        have hin_3 := h.1
        have h := h.2
        refine va_iast hx hb hK hP hD hS 12 0 rfl rfl hin_3 dX12_makesRow_20 (fun H locs hP hD hS => ?_)
        obtain ⟨S3, eS3⟩ : ∃ z, z = ms S 13 (upd (S 13) (a1 : Int32).toNatClampNeg a2) := ⟨_, rfl⟩
        have hP : va_P D vwCl (mW cI cZ h0 q S3) H := by rw [eS3]; exact hP
        have hD : va_D A (mW cI cZ h0 q S3) := by rw [eS3]; exact hD
        have h := h S3 eS3
        refine lv_iconst (v := 0) hx hb dX12_makesRow_21 (by decide) ?_
        refine lv_istore_n (lv' := [(3, .int 0), (0, .ref h0), (1, .int a1), (2, .int a2)]) hx hb dX12_makesRow_22 rfl hl (by decide) rfl (fun ls hl => ?_)
        have EX_23_46 : ∀ (S_46 : MST) (H : Heap) (locs : List Loc) (ls : Array Slot), (Post S_46 0) → va_P D vwCl (mW cI cZ h0 q S_46) H → va_D A (mW cI cZ h0 q S_46) → va_S A s.heap H locs → lv_has ls 4 [] → W p l e (headSpec zw_zd_X12_makesRow ({ frames := 0, cells := 0, slots := 0, locals := 0 })).room s m ([.ref h0, .int a1, .int a2] : List Value).toArray below meth c H locs 0 0 (MQ below (va_Qi (fun r S' => Post S' r) (fun (S' : MST) t => va_P D vwCl (mW cI cZ h0 q S') t.heap ∧ va_D A (mW cI cZ h0 q S')) A) ([.ref h0, .int a1, .int a2] : List Value).toArray s 0 0 A) (F0 m 46 ls []) := by
          intro S_46  H locs ls h hP hD hS hl
          refine lv_iconst (v := 0) hx hb dX12_makesRow_46 (by decide) ?_
          exact W.iret (v := 0) hx hb hr (fun t ht hW => ⟨⟨_, S_46, rfl, h, by rw [ht]; exact hP, hD⟩, hS.F ht⟩) hS.2.2 dX12_makesRow_47
        have LP_23 : ∀ (n_23 : Nat), ∀ (S_23 : MST) (x23_1 : Int32) (x23_2 : Int32) (x23_3 : Int32) (H : Heap) (locs : List Loc) (ls : Array Slot), wl_X12_makesRow_23 (fun S_46 => Post S_46 0) Post n_23 S_23 x23_1 x23_2 x23_3 → va_P D vwCl (mW cI cZ h0 q S_23) H → va_D A (mW cI cZ h0 q S_23) → va_S A s.heap H locs → lv_has ls 4 [(0, .ref h0), (1, .int x23_1), (2, .int x23_2), (3, .int x23_3)] → W p l e (headSpec zw_zd_X12_makesRow ({ frames := 0, cells := 0, slots := 0, locals := 0 })).room s m ([.ref h0, .int a1, .int a2] : List Value).toArray below meth c H locs 0 0 (MQ below (va_Qi (fun r S' => Post S' r) (fun (S' : MST) t => va_P D vwCl (mW cI cZ h0 q S') t.heap ∧ va_D A (mW cI cZ h0 q S')) A) ([.ref h0, .int a1, .int a2] : List Value).toArray s 0 0 A) (F0 m 23 ls []) := by
          intro n_23
          induction n_23 with
          | zero =>
            intro S_23 x23_1 x23_2 x23_3 H locs ls h hP hD hS hl
            exact False.elim h
          | succ n_23 ih_23 =>
            intro S_23 x23_1 x23_2 x23_3 H locs ls h hP hD hS hl
            unfold wl_X12_makesRow_23 at h
            refine lv_iload_n hx hb dX12_makesRow_23 rfl (lv_at hl 3 rfl) ?_
            refine lv_iload_n hx hb dX12_makesRow_24 rfl (lv_at hl 2 rfl) ?_
            refine lv_icmp_ge (tgt := 46) hx hb dX12_makesRow_25 (by decide) (fun c_4 => ?_) (fun c_4 => ?_)
            · have h := h.1 c_4
              exact EX_23_46  S_23  H locs _ h hP hD hS (lv_sub hl [] rfl)
            · have h := h.2 c_4
              refine lv_aload_n hx hb dX12_makesRow_28 rfl (lv_at hl 0 rfl) ?_
              refine va_get (D := D) (ci := 12) (v := .ref (q 14)) (C := RX12) (T := TX12) (N := 52) hx hb hts (fun _ h => List.mem_cons_of_mem _ (List.mem_append_right _ h)) hown hK hP 0 rfl rfl 14 (by decide) (hts (.fieldLink RX12 47 "TemplateForgeModel" "rows" "[I") (List.mem_of_getElem? (i := 2) rfl)) (fun _ h9 => h9) rfl dX12_makesRow_29 ?_
              refine lv_bipush (v := 20) hx hb dX12_makesRow_32 (by decide) ?_
              refine lv_iload_n hx hb dX12_makesRow_34 rfl (lv_at hl 1 rfl) ?_
              refine lv_imul hx hb dX12_makesRow_35 ?_
              refine lv_iload_n hx hb dX12_makesRow_36 rfl (lv_at hl 3 rfl) ?_
              refine lv_iadd hx hb dX12_makesRow_37 ?_
              refine lv_iconst (v := 0) hx hb dX12_makesRow_38 (by decide) ?_
              have hin_5 := h.1
              have h := h.2
              refine va_iast hx hb hK hP hD hS 13 0 rfl rfl hin_5 dX12_makesRow_39 (fun H locs hP hD hS => ?_)
              obtain ⟨S5, eS5⟩ : ∃ z, z = ms S_23 14 (upd (S_23 14) ((20 * x23_1) + x23_3 : Int32).toNatClampNeg 0) := ⟨_, rfl⟩
              have hP : va_P D vwCl (mW cI cZ h0 q S5) H := by rw [eS5]; exact hP
              have hD : va_D A (mW cI cZ h0 q S5) := by rw [eS5]; exact hD
              have h := h S5 eS5
              refine lv_iinc (v := x23_3 + 1) (lv' := [(3, .int (x23_3 + 1)), (0, .ref h0), (1, .int x23_1), (2, .int x23_2)]) hx hb dX12_makesRow_40 hl (k := 3) rfl rfl (by decide) rfl (fun ls hl => ?_)
              refine lv_goto (tgt := 23) hx hb dX12_makesRow_43 (by decide) ?_
              exact ih_23  S5 x23_1 x23_2 (x23_3 + 1) H locs _ h hP hD hS (lv_sub hl [1, 2, 3, 0] rfl)
        obtain ⟨n_23, h⟩ := h
        exact LP_23 n_23 S3 a1 a2 0 H locs _ h hP hD hS (lv_sub hl [1, 2, 3, 0] rfl)
      · have h := h.2 c_2
        refine lv_iconst (v := 5) hx hb dX12_makesRow_12 (by decide) ?_
        exact W.iret (v := 5) hx hb hr (fun t ht hW => ⟨⟨_, S, rfl, h, by rw [ht]; exact hP, hD⟩, hS.F ht⟩) hS.2.2 dX12_makesRow_13
    · have h := h.2 c_1
      refine lv_iconst (v := 4) hx hb dX12_makesRow_4 (by decide) ?_
      exact W.iret (v := 4) hx hb hr (fun t ht hW => ⟨⟨_, S, rfl, h, by rw [ht]; exact hP, hD⟩, hS.F ht⟩) hS.2.2 dX12_makesRow_5
  exact key _ _ hP va_S.rf
def wp_X12_refuses (S : MST) (a1 : Int32) (a2 : Int32) (Post : Int32 → Prop) : Prop :=
  vp_in a1 4 ∧ (((0 ≤ (S 13 (a1 : Int32).toNatClampNeg)) → (vp_in a1 4 ∧ (wp_X12_in ((a2 : Int32).toInt64) 0 (((S 13 (a1 : Int32).toNatClampNeg) - 1 : Int32).toInt64) (fun r4 => (((r4 : Int32) = 0) → (Post 3)) ∧ ((¬ ((r4 : Int32) = 0)) → (Post 0)))))) ∧ ((¬ (0 ≤ (S 13 (a1 : Int32).toNatClampNeg))) → (Post 2)))
def zw_zd_X12_refuses_w0 : List Cond := [.fieldLink RX12 44 "TemplateForgeModel" "sizes" "[I", .code yX12_in cX12_in 6 (some .boolean), .methodLink RX12 134 yX12_in, .static yX12_in, .initialized RX12]
def zw_zd_X12_refuses : List Cond := .code yX12_refuses cX12_refuses 3 (some .int) :: ((zw_zd_X12_refuses_w0) ++ wsX120)
set_option maxRecDepth 100000 in
theorem zg_zd_X12_refuses_zd_X12_in_134_a : GoodIn zw_zd_X12_refuses [.methodLink RX12 134 yX12_in, .static yX12_in, .initialized RX12] := goodIn_r _ [3, 4, 5] (by decide +kernel) (by decide +kernel)
set_option maxRecDepth 100000 in
theorem zg_zd_X12_refuses_zd_X12_in_134_c : GoodIn zw_zd_X12_refuses [.code yX12_in cX12_in 6 (some .boolean)] := goodIn_r _ [2] (by decide +kernel) (by decide +kernel)
theorem zg_zd_X12_refuses_zd_X12_in_134 : GoodIn zw_zd_X12_refuses (va_wsS RX12 134 yX12_in zw_zd_X12_in) := goodIn_app zg_zd_X12_refuses_zd_X12_in_134_a (show GoodIn zw_zd_X12_refuses (.code yX12_in cX12_in 6 (some .boolean) :: (([] : List Cond))) from zg_zd_X12_refuses_zd_X12_in_134_c)
set_option maxHeartbeats 16000000 in
set_option maxRecDepth 100000 in
theorem zd_X12_refuses (l : Launch) (D : va_G) (cI cZ cP cF : Nat) (h0 : Nat) (q : Nat → Nat) (S : MST) (a1 : Int32) (a2 : Int32) (Post : Int32 → Prop) (h : wp_X12_refuses S a1 a2 Post) : Met l yX12_refuses zw_zd_X12_refuses ({ frames := 1, cells := 0, slots := 0, locals := 25 }) (va_Pc [.ref h0, .int a1, .int a2] (fun U => va_P D vwCl (mW cI cZ h0 q S) U.heap ∧ zE D cI cZ cP cF U)) (vp_Si Post) 0 0 (fun _ => False) := by
  unfold wp_X12_refuses at h
  refine Met.ofW (cc := cX12_refuses) (maxL := 3) (ret := (some .int)) (by decide) rfl ?_
  intro p e s m args below meth c s₁ B hml hv
  obtain ⟨rfl, hP, hE⟩ := hv
  have hx := B.exec
  have hb := B.bytes
  have hr := B.returns
  have hts := atoms_spec (ws := zw_zd_X12_refuses) B.pre
  have hown : s.vm.findClass RX12 = some m.cls := findClass_of_methodNamed B.named
  have hlocks := B.notSynchronized
  have hK := hE.k
  have hl := lv_entry ([.ref h0, .int a1, .int a2]) (n := 3) (Nat.le_of_ble_eq_true rfl)
  rw [lg_entry_eq]
  generalize (lg_sl ([.ref h0, .int a1, .int a2]) ++ List.replicate (3 - (lg_sl ([.ref h0, .int a1, .int a2])).length) Slot.unset).toArray = ls at hl ⊢
  have hl : lv_has ls 3 [(0, .ref h0), (1, .int a1), (2, .int a2)] := hl
  refine lv_aload_n hx hb dX12_refuses_0 rfl (lv_at hl 0 rfl) ?_
  refine va_get (D := D) (ci := 12) (v := .ref (q 13)) (C := RX12) (T := TX12) (N := 52) hx hb hts (fun _ h => List.mem_cons_of_mem _ (List.mem_append_right _ h)) hown hK hP 0 rfl rfl 13 (by decide) (hts (.fieldLink RX12 44 "TemplateForgeModel" "sizes" "[I") (List.mem_of_getElem? (i := 1) rfl)) (fun _ h9 => h9) rfl dX12_refuses_1 ?_
  refine lv_iload_n hx hb dX12_refuses_4 rfl (lv_at hl 1 rfl) ?_
  have hin_1 := h.1
  have h := h.2
  refine va_iald hx hb hK hP 12 0 rfl rfl hin_1 dX12_refuses_5 ?_
  refine lv_if_ge (tgt := 13) hx hb dX12_refuses_6 (by decide) (fun c_2 => ?_) (fun c_2 => ?_)
  · have h := h.1 c_2
    refine lv_iload_n hx hb dX12_refuses_13 rfl (lv_at hl 2 rfl) ?_
    refine lv_i2l (v := (a2 : Int32).toInt64) hx hb dX12_refuses_14 rfl ?_
    refine lv_lconst (v := 0) hx hb dX12_refuses_15 (by decide) ?_
    refine lv_aload_n hx hb dX12_refuses_16 rfl (lv_at hl 0 rfl) ?_
    refine va_get (D := D) (ci := 12) (v := .ref (q 13)) (C := RX12) (T := TX12) (N := 52) hx hb hts (fun _ h => List.mem_cons_of_mem _ (List.mem_append_right _ h)) hown hK hP 0 rfl rfl 13 (by decide) (hts (.fieldLink RX12 44 "TemplateForgeModel" "sizes" "[I") (List.mem_of_getElem? (i := 1) rfl)) (fun _ h9 => h9) rfl dX12_refuses_17 ?_
    refine lv_iload_n hx hb dX12_refuses_20 rfl (lv_at hl 1 rfl) ?_
    have hin_3 := h.1
    have h := h.2
    refine va_iald hx hb hK hP 12 0 rfl rfl hin_3 dX12_refuses_21 ?_
    refine lv_iconst (v := 1) hx hb dX12_refuses_22 (by decide) ?_
    refine lv_isub hx hb dX12_refuses_23 ?_
    refine lv_i2l (v := ((S 13 (a1 : Int32).toNatClampNeg) - 1 : Int32).toInt64) hx hb dX12_refuses_24 rfl ?_
    have hP0 : va_P D vwCl [] s.heap := fun k q h => by simp at h
    refine vp_callSi (va_Run.run (va_runS (As := [.long ((a2 : Int32).toInt64), .long 0, .long (((S 13 (a1 : Int32).toNatClampNeg) - 1 : Int32).toInt64)]) (rest := []) ⟨hx, hb, hml, hown, hts⟩ (zd_X12_in l D cI cZ cP cF ((a2 : Int32).toInt64) 0 (((S 13 (a1 : Int32).toNatClampNeg) - 1 : Int32).toInt64)  _ h) (va_cwS 3 hts zg_zd_X12_refuses_zd_X12_in_134 rfl rfl rfl (by decide +kernel) ⟨Nat.le_of_ble_eq_true rfl, Nat.le_of_ble_eq_true rfl⟩) ⟨zBR, fun U hU hW => ⟨rfl, by rw [hU]; exact hP0, hE.warm hW⟩⟩ rfl rfl hl.1 rfl (lv_room (Nat.le_of_ble_eq_true rfl)) dX12_refuses_25 ⟨Nat.le_of_ble_eq_true rfl, Nat.le_of_ble_eq_true rfl⟩)) (fun r4 h => ?_)
    refine lv_if_eq (tgt := 35) hx hb dX12_refuses_28 (by decide) (fun c_5 => ?_) (fun c_5 => ?_)
    · have h := h.1 c_5
      refine lv_iconst (v := 3) hx hb dX12_refuses_35 (by decide) ?_
      exact W.iret (v := 3) hx hb hr (fun t ht hW => ⟨_, rfl, h, ht⟩) (fun q h => by cases h) dX12_refuses_36
    · have h := h.2 c_5
      refine lv_iconst (v := 0) hx hb dX12_refuses_31 (by decide) ?_
      refine lv_goto (tgt := 36) hx hb dX12_refuses_32 (by decide) ?_
      exact W.iret (v := 0) hx hb hr (fun t ht hW => ⟨_, rfl, h, ht⟩) (fun q h => by cases h) dX12_refuses_36
  · have h := h.2 c_2
    refine lv_iconst (v := 2) hx hb dX12_refuses_9 (by decide) ?_
    refine lv_goto (tgt := 36) hx hb dX12_refuses_10 (by decide) ?_
    exact W.iret (v := 2) hx hb hr (fun t ht hW => ⟨_, rfl, h, ht⟩) (fun q h => by cases h) dX12_refuses_36
