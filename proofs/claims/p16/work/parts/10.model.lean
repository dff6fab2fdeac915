def wp_X12_answer (S : MST) (Post : Int32 → Prop) : Prop :=
  Post (S 49 0)
def zw_zd_X12_answer_w0 : List Cond := [.fieldLink RX12 259 "TemplateForgeModel" "answer" "I"]
def zw_zd_X12_answer : List Cond := .code yX12_answer cX12_answer 1 (some .int) :: ((zw_zd_X12_answer_w0) ++ wsX120)
set_option maxHeartbeats 16000000 in
set_option maxRecDepth 100000 in
theorem zd_X12_answer (l : Launch) (D : va_G) (cI cZ cP cF : Nat) (h0 : Nat) (q : Nat → Nat) (S : MST) (Post : Int32 → Prop) (h : wp_X12_answer S Post) : Met l yX12_answer zw_zd_X12_answer ({ frames := 0, cells := 0, slots := 0, locals := 0 }) (va_Pc [.ref h0] (fun U => va_P D vwCl (mW cI cZ h0 q S) U.heap ∧ zE D cI cZ cP cF U)) (vp_Si Post) 0 0 (fun _ => False) := by
  unfold wp_X12_answer at h
  refine Met.ofW (cc := cX12_answer) (maxL := 1) (ret := (some .int)) (by decide) rfl ?_
  intro p e s m args below meth c s₁ B hml hv
  obtain ⟨rfl, hP, hE⟩ := hv
  have hx := B.exec
  have hb := B.bytes
  have hr := B.returns
  have hts := atoms_spec (ws := zw_zd_X12_answer) B.pre
  have hown : s.vm.findClass RX12 = some m.cls := findClass_of_methodNamed B.named
  have hlocks := B.notSynchronized
  have hK := hE.k
  have hl := lv_entry ([.ref h0]) (n := 1) (Nat.le_of_ble_eq_true rfl)
  rw [lg_entry_eq]
  generalize (lg_sl ([.ref h0]) ++ List.replicate (1 - (lg_sl ([.ref h0])).length) Slot.unset).toArray = ls at hl ⊢
  have hl : lv_has ls 1 [(0, .ref h0)] := hl
  refine lv_aload_n hx hb dX12_answer_0 rfl (lv_at hl 0 rfl) ?_
  refine va_get (D := D) (ci := 12) (v := .int (S 49 0)) (C := RX12) (T := TX12) (N := 52) hx hb hts (fun _ h => List.mem_cons_of_mem _ (List.mem_append_right _ h)) hown hK hP 0 rfl rfl 49 (by decide) (hts (.fieldLink RX12 259 "TemplateForgeModel" "answer" "I") (List.mem_of_getElem? (i := 1) rfl)) (fun _ h9 => h9) rfl dX12_answer_1 ?_
  exact W.iret (v := S 49 0) hx hb hr (fun t ht hW => ⟨_, rfl, h, ht⟩) (fun q h => by cases h) dX12_answer_4
def wl_X12_has_6 (S : MST) (K_82 : Int32 → Prop) (Post : Int32 → Prop) : Nat → Int32 → Int32 → Int32 → Int32 → Int32 → Prop
  | 0, _, _, _, _, _ => False
  | n_6 + 1, x6_1, x6_2, x6_3, x6_4, x6_5 => vp_in x6_1 8 ∧ ((((S 3 (x6_1 : Int32).toNatClampNeg) ≤ x6_5) → ((K_82 x6_4))) ∧ ((¬ ((S 3 (x6_1 : Int32).toNatClampNeg) ≤ x6_5)) → (((¬ ((x6_4 : Int32) = 0)) → (wl_X12_has_6 S K_82 Post n_6 x6_1 x6_2 x6_3 1 (x6_5 + 1))) ∧ (((x6_4 : Int32) = 0) → (vp_in ((60 * x6_1) + x6_5) 480 ∧ (((((S 7 ((60 * x6_1) + x6_5 : Int32).toNatClampNeg) : Int32) < 0) → (wl_X12_has_6 S K_82 Post n_6 x6_1 x6_2 x6_3 0 (x6_5 + 1))) ∧ ((¬ (((S 7 ((60 * x6_1) + x6_5 : Int32).toNatClampNeg) : Int32) < 0)) → (vp_in ((60 * x6_1) + x6_5) 480 ∧ (((¬ (((S 4 ((60 * x6_1) + x6_5 : Int32).toNatClampNeg) : Int32) = x6_2)) → (wl_X12_has_6 S K_82 Post n_6 x6_1 x6_2 x6_3 0 (x6_5 + 1))) ∧ ((((S 4 ((60 * x6_1) + x6_5 : Int32).toNatClampNeg) : Int32) = x6_2) → (vp_in ((60 * x6_1) + x6_5) 480 ∧ (((¬ (((S 5 ((60 * x6_1) + x6_5 : Int32).toNatClampNeg) : Int32) = x6_3)) → (wl_X12_has_6 S K_82 Post n_6 x6_1 x6_2 x6_3 0 (x6_5 + 1))) ∧ ((((S 5 ((60 * x6_1) + x6_5 : Int32).toNatClampNeg) : Int32) = x6_3) → (wl_X12_has_6 S K_82 Post n_6 x6_1 x6_2 x6_3 1 (x6_5 + 1)))))))))))))))
def wp_X12_has (S : MST) (a1 : Int32) (a2 : Int32) (a3 : Int32) (Post : Int32 → Prop) : Prop :=
  ∃ n_6, wl_X12_has_6 S (fun x82_4 => (x82_4 = 0 ∨ x82_4 = 1) ∧ Post x82_4) Post n_6 a1 a2 a3 0 0
def zw_zd_X12_has_w0 : List Cond := [.fieldLink RX12 16 "TemplateForgeModel" "many" "[I", .fieldLink RX12 29 "TemplateForgeModel" "depths" "[I", .fieldLink RX12 19 "TemplateForgeModel" "op" "[I", .fieldLink RX12 22 "TemplateForgeModel" "operand" "[I"]
def zw_zd_X12_has : List Cond := .code yX12_has cX12_has 6 (some .boolean) :: ((zw_zd_X12_has_w0) ++ wsX120)
set_option maxHeartbeats 16000000 in
set_option maxRecDepth 100000 in
theorem zd_X12_has (l : Launch) (D : va_G) (cI cZ cP cF : Nat) (h0 : Nat) (q : Nat → Nat) (S : MST) (a1 : Int32) (a2 : Int32) (a3 : Int32) (Post : Int32 → Prop) (h : wp_X12_has S a1 a2 a3 Post) : Met l yX12_has zw_zd_X12_has ({ frames := 0, cells := 0, slots := 0, locals := 0 }) (va_Pc [.ref h0, .int a1, .int a2, .int a3] (fun U => va_P D vwCl (mW cI cZ h0 q S) U.heap ∧ zE D cI cZ cP cF U)) (vp_Si Post) 0 0 (fun _ => False) := by
  unfold wp_X12_has at h
  refine Met.ofW (cc := cX12_has) (maxL := 6) (ret := (some .boolean)) (by decide) rfl ?_
  intro p e s m args below meth c s₁ B hml hv
  obtain ⟨rfl, hP, hE⟩ := hv
  have hx := B.exec
  have hb := B.bytes
  have hr := B.returns
  have hts := atoms_spec (ws := zw_zd_X12_has) B.pre
  have hown : s.vm.findClass RX12 = some m.cls := findClass_of_methodNamed B.named
  have hlocks := B.notSynchronized
  have hK := hE.k
  have hl := lv_entry ([.ref h0, .int a1, .int a2, .int a3]) (n := 6) (Nat.le_of_ble_eq_true rfl)
  rw [lg_entry_eq]
  generalize (lg_sl ([.ref h0, .int a1, .int a2, .int a3]) ++ List.replicate (6 - (lg_sl ([.ref h0, .int a1, .int a2, .int a3])).length) Slot.unset).toArray = ls at hl ⊢
  have hl : lv_has ls 6 [(0, .ref h0), (1, .int a1), (2, .int a2), (3, .int a3)] := hl
  refine lv_iconst (v := 0) hx hb dX12_has_0 (by decide) ?_
  refine lv_istore (lv' := [(4, .int 0), (0, .ref h0), (1, .int a1), (2, .int a2), (3, .int a3)]) hx hb dX12_has_1 hl (by decide) rfl (fun ls hl => ?_)
  refine lv_iconst (v := 0) hx hb dX12_has_3 (by decide) ?_
  refine lv_istore (lv' := [(5, .int 0), (4, .int 0), (0, .ref h0), (1, .int a1), (2, .int a2), (3, .int a3)]) hx hb dX12_has_4 hl (by decide) rfl (fun ls hl => ?_)
  have EX_6_82 : ∀ (x82_4 : Int32) (ls : Array Slot), ((x82_4 = 0 ∨ x82_4 = 1) ∧ Post x82_4) → lv_has ls 6 [(4, .int x82_4)] → W p l e (headSpec zw_zd_X12_has ({ frames := 0, cells := 0, slots := 0, locals := 0 })).room s m ([.ref h0, .int a1, .int a2, .int a3] : List Value).toArray below meth c s.heap [] 0 0 (MQ below (vp_Si Post) ([.ref h0, .int a1, .int a2, .int a3] : List Value).toArray s 0 0 (fun _ => False)) (F0 m 82 ls []) := by
    intro x82_4 ls h hl
    refine lv_iload hx hb dX12_has_82 (lv_at hl 0 rfl) ?_
    have hz : narrow .boolean (.int x82_4) = .int x82_4 := by rcases h.1 with q | q <;> rw [q] <;> rfl
    have h := h.2
    exact W.zret (v := x82_4) (ty := .boolean) hx hb hr (hz) (fun t ht hW => ⟨_, rfl, h, ht⟩) (fun q h => by cases h) dX12_has_84
  have LP_6 : ∀ (n_6 : Nat), ∀ (x6_1 : Int32) (x6_2 : Int32) (x6_3 : Int32) (x6_4 : Int32) (x6_5 : Int32) (ls : Array Slot), wl_X12_has_6 S (fun x82_4 => (x82_4 = 0 ∨ x82_4 = 1) ∧ Post x82_4) Post n_6 x6_1 x6_2 x6_3 x6_4 x6_5 → lv_has ls 6 [(0, .ref h0), (1, .int x6_1), (2, .int x6_2), (3, .int x6_3), (4, .int x6_4), (5, .int x6_5)] → W p l e (headSpec zw_zd_X12_has ({ frames := 0, cells := 0, slots := 0, locals := 0 })).room s m ([.ref h0, .int a1, .int a2, .int a3] : List Value).toArray below meth c s.heap [] 0 0 (MQ below (vp_Si Post) ([.ref h0, .int a1, .int a2, .int a3] : List Value).toArray s 0 0 (fun _ => False)) (F0 m 6 ls []) := by
    intro n_6
    induction n_6 with
    | zero =>
      intro x6_1 x6_2 x6_3 x6_4 x6_5 ls h hl
      exact False.elim h
    | succ n_6 ih_6 =>
      intro x6_1 x6_2 x6_3 x6_4 x6_5 ls h hl
      unfold wl_X12_has_6 at h
      refine lv_iload hx hb dX12_has_6 (lv_at hl 5 rfl) ?_
      refine lv_aload_n hx hb dX12_has_8 rfl (lv_at hl 0 rfl) ?_
      refine va_get (D := D) (ci := 12) (v := .ref (q 3)) (C := RX12) (T := TX12) (N := 52) hx hb hts (fun _ h => List.mem_cons_of_mem _ (List.mem_append_right _ h)) hown hK hP 0 rfl rfl 3 (by decide) (hts (.fieldLink RX12 16 "TemplateForgeModel" "many" "[I") (List.mem_of_getElem? (i := 1) rfl)) (fun _ h9 => h9) rfl dX12_has_9 ?_
      refine lv_iload_n hx hb dX12_has_12 rfl (lv_at hl 1 rfl) ?_
      have hin_1 := h.1
      have h := h.2
      refine va_iald hx hb hK hP 3 0 rfl rfl hin_1 dX12_has_13 ?_
      refine lv_icmp_ge (tgt := 82) hx hb dX12_has_14 (by decide) (fun c_2 => ?_) (fun c_2 => ?_)
      · have h := h.1 c_2
        exact EX_6_82  x6_4 _ h (lv_sub hl [4] rfl)
      · have h := h.2 c_2
        refine lv_iload hx hb dX12_has_17 (lv_at hl 4 rfl) ?_
        refine lv_if_ne (tgt := 69) hx hb dX12_has_19 (by decide) (fun c_3 => ?_) (fun c_3 => ?_)
        · have h := h.1 c_3
          refine lv_iconst (v := 1) hx hb dX12_has_69 (by decide) ?_
          refine lv_goto (tgt := 74) hx hb dX12_has_70 (by decide) ?_
          refine lv_istore (lv' := [(4, .int 1), (0, .ref h0), (1, .int x6_1), (2, .int x6_2), (3, .int x6_3), (5, .int x6_5)]) hx hb dX12_has_74 hl (by decide) rfl (fun ls hl => ?_)
          refine lv_iinc (v := x6_5 + 1) (lv' := [(5, .int (x6_5 + 1)), (4, .int 1), (0, .ref h0), (1, .int x6_1), (2, .int x6_2), (3, .int x6_3)]) hx hb dX12_has_76 hl (k := 5) rfl rfl (by decide) rfl (fun ls hl => ?_)
          refine lv_goto (tgt := 6) hx hb dX12_has_79 (by decide) ?_
          exact ih_6  x6_1 x6_2 x6_3 1 (x6_5 + 1) _ h (lv_sub hl [2, 3, 4, 5, 1, 0] rfl)
        · have h := h.2 c_3
          refine lv_aload_n hx hb dX12_has_22 rfl (lv_at hl 0 rfl) ?_
          refine va_get (D := D) (ci := 12) (v := .ref (q 7)) (C := RX12) (T := TX12) (N := 52) hx hb hts (fun _ h => List.mem_cons_of_mem _ (List.mem_append_right _ h)) hown hK hP 0 rfl rfl 7 (by decide) (hts (.fieldLink RX12 29 "TemplateForgeModel" "depths" "[I") (List.mem_of_getElem? (i := 2) rfl)) (fun _ h9 => h9) rfl dX12_has_23 ?_
          refine lv_bipush (v := 60) hx hb dX12_has_26 (by decide) ?_
          refine lv_iload_n hx hb dX12_has_28 rfl (lv_at hl 1 rfl) ?_
          refine lv_imul hx hb dX12_has_29 ?_
          refine lv_iload hx hb dX12_has_30 (lv_at hl 5 rfl) ?_
          refine lv_iadd hx hb dX12_has_32 ?_
          have hin_4 := h.1
          have h := h.2
          refine va_iald hx hb hK hP 7 0 rfl rfl hin_4 dX12_has_33 ?_
          refine lv_if_lt (tgt := 73) hx hb dX12_has_34 (by decide) (fun c_5 => ?_) (fun c_5 => ?_)
          · have h := h.1 c_5
            refine lv_iconst (v := 0) hx hb dX12_has_73 (by decide) ?_
            refine lv_istore (lv' := [(4, .int 0), (0, .ref h0), (1, .int x6_1), (2, .int x6_2), (3, .int x6_3), (5, .int x6_5)]) hx hb dX12_has_74 hl (by decide) rfl (fun ls hl => ?_)
            refine lv_iinc (v := x6_5 + 1) (lv' := [(5, .int (x6_5 + 1)), (4, .int 0), (0, .ref h0), (1, .int x6_1), (2, .int x6_2), (3, .int x6_3)]) hx hb dX12_has_76 hl (k := 5) rfl rfl (by decide) rfl (fun ls hl => ?_)
            refine lv_goto (tgt := 6) hx hb dX12_has_79 (by decide) ?_
            exact ih_6  x6_1 x6_2 x6_3 0 (x6_5 + 1) _ h (lv_sub hl [2, 3, 4, 5, 1, 0] rfl)
          · have h := h.2 c_5
            refine lv_aload_n hx hb dX12_has_37 rfl (lv_at hl 0 rfl) ?_
            refine va_get (D := D) (ci := 12) (v := .ref (q 4)) (C := RX12) (T := TX12) (N := 52) hx hb hts (fun _ h => List.mem_cons_of_mem _ (List.mem_append_right _ h)) hown hK hP 0 rfl rfl 4 (by decide) (hts (.fieldLink RX12 19 "TemplateForgeModel" "op" "[I") (List.mem_of_getElem? (i := 3) rfl)) (fun _ h9 => h9) rfl dX12_has_38 ?_
            refine lv_bipush (v := 60) hx hb dX12_has_41 (by decide) ?_
            refine lv_iload_n hx hb dX12_has_43 rfl (lv_at hl 1 rfl) ?_
            refine lv_imul hx hb dX12_has_44 ?_
            refine lv_iload hx hb dX12_has_45 (lv_at hl 5 rfl) ?_
            refine lv_iadd hx hb dX12_has_47 ?_
            have hin_6 := h.1
            have h := h.2
            refine va_iald hx hb hK hP 4 0 rfl rfl hin_6 dX12_has_48 ?_
            refine lv_iload_n hx hb dX12_has_49 rfl (lv_at hl 2 rfl) ?_
            refine lv_icmp_ne (tgt := 73) hx hb dX12_has_50 (by decide) (fun c_7 => ?_) (fun c_7 => ?_)
            · have h := h.1 c_7
              refine lv_iconst (v := 0) hx hb dX12_has_73 (by decide) ?_
              refine lv_istore (lv' := [(4, .int 0), (0, .ref h0), (1, .int x6_1), (2, .int x6_2), (3, .int x6_3), (5, .int x6_5)]) hx hb dX12_has_74 hl (by decide) rfl (fun ls hl => ?_)
              refine lv_iinc (v := x6_5 + 1) (lv' := [(5, .int (x6_5 + 1)), (4, .int 0), (0, .ref h0), (1, .int x6_1), (2, .int x6_2), (3, .int x6_3)]) hx hb dX12_has_76 hl (k := 5) rfl rfl (by decide) rfl (fun ls hl => ?_)
              refine lv_goto (tgt := 6) hx hb dX12_has_79 (by decide) ?_
              exact ih_6  x6_1 x6_2 x6_3 0 (x6_5 + 1) _ h (lv_sub hl [2, 3, 4, 5, 1, 0] rfl)
            · have h := h.2 c_7
              refine lv_aload_n hx hb dX12_has_53 rfl (lv_at hl 0 rfl) ?_
              refine va_get (D := D) (ci := 12) (v := .ref (q 5)) (C := RX12) (T := TX12) (N := 52) hx hb hts (fun _ h => List.mem_cons_of_mem _ (List.mem_append_right _ h)) hown hK hP 0 rfl rfl 5 (by decide) (hts (.fieldLink RX12 22 "TemplateForgeModel" "operand" "[I") (List.mem_of_getElem? (i := 4) rfl)) (fun _ h9 => h9) rfl dX12_has_54 ?_
              refine lv_bipush (v := 60) hx hb dX12_has_57 (by decide) ?_
              refine lv_iload_n hx hb dX12_has_59 rfl (lv_at hl 1 rfl) ?_
              refine lv_imul hx hb dX12_has_60 ?_
              refine lv_iload hx hb dX12_has_61 (lv_at hl 5 rfl) ?_
              refine lv_iadd hx hb dX12_has_63 ?_
              have hin_8 := h.1
              have h := h.2
              refine va_iald hx hb hK hP 5 0 rfl rfl hin_8 dX12_has_64 ?_
              refine lv_iload_n hx hb dX12_has_65 rfl (lv_at hl 3 rfl) ?_
              refine lv_icmp_ne (tgt := 73) hx hb dX12_has_66 (by decide) (fun c_9 => ?_) (fun c_9 => ?_)
              · have h := h.1 c_9
                refine lv_iconst (v := 0) hx hb dX12_has_73 (by decide) ?_
                refine lv_istore (lv' := [(4, .int 0), (0, .ref h0), (1, .int x6_1), (2, .int x6_2), (3, .int x6_3), (5, .int x6_5)]) hx hb dX12_has_74 hl (by decide) rfl (fun ls hl => ?_)
                refine lv_iinc (v := x6_5 + 1) (lv' := [(5, .int (x6_5 + 1)), (4, .int 0), (0, .ref h0), (1, .int x6_1), (2, .int x6_2), (3, .int x6_3)]) hx hb dX12_has_76 hl (k := 5) rfl rfl (by decide) rfl (fun ls hl => ?_)
                refine lv_goto (tgt := 6) hx hb dX12_has_79 (by decide) ?_
                exact ih_6  x6_1 x6_2 x6_3 0 (x6_5 + 1) _ h (lv_sub hl [2, 3, 4, 5, 1, 0] rfl)
              · have h := h.2 c_9
                refine lv_iconst (v := 1) hx hb dX12_has_69 (by decide) ?_
                refine lv_goto (tgt := 74) hx hb dX12_has_70 (by decide) ?_
                refine lv_istore (lv' := [(4, .int 1), (0, .ref h0), (1, .int x6_1), (2, .int x6_2), (3, .int x6_3), (5, .int x6_5)]) hx hb dX12_has_74 hl (by decide) rfl (fun ls hl => ?_)
                refine lv_iinc (v := x6_5 + 1) (lv' := [(5, .int (x6_5 + 1)), (4, .int 1), (0, .ref h0), (1, .int x6_1), (2, .int x6_2), (3, .int x6_3)]) hx hb dX12_has_76 hl (k := 5) rfl rfl (by decide) rfl (fun ls hl => ?_)
                refine lv_goto (tgt := 6) hx hb dX12_has_79 (by decide) ?_
                exact ih_6  x6_1 x6_2 x6_3 1 (x6_5 + 1) _ h (lv_sub hl [2, 3, 4, 5, 1, 0] rfl)
  obtain ⟨n_6, h⟩ := h
  exact LP_6 n_6 a1 a2 a3 0 0 _ h (lv_sub hl [2, 3, 4, 5, 1, 0] rfl)
def wl_X12_assumes_2 (K_132 : MST → Prop) (Post : MST → Prop) : Nat → MST → Int32 → Int32 → Prop
  | 0, _, _, _ => False
  | n_2 + 1, S_2, x2_1, x2_2 => ((11 ≤ x2_2) → ((K_132 S_2 ))) ∧ ((¬ (11 ≤ x2_2)) → (((3 ≤ x2_2) → (wp_X12_has S_2 x2_1 13 (x2_2 - 3) (fun r3 => (((r3 : Int32) = 0) → (vp_in x2_2 11 ∧ (∀ S5 : MST, S5 = ms S_2 30 (upd (S_2 30) (x2_2 : Int32).toNatClampNeg (vp_nar .boolean 0)) → (wl_X12_assumes_2 K_132 Post n_2 S5 x2_1 (x2_2 + 1))))) ∧ ((¬ ((r3 : Int32) = 0)) → (wp_X12_has S_2 x2_1 14 (x2_2 - 3) (fun r6 => ((¬ ((r6 : Int32) = 0)) → (vp_in x2_2 11 ∧ (∀ S8 : MST, S8 = ms S_2 30 (upd (S_2 30) (x2_2 : Int32).toNatClampNeg (vp_nar .boolean 0)) → (wl_X12_assumes_2 K_132 Post n_2 S8 x2_1 (x2_2 + 1))))) ∧ (((r6 : Int32) = 0) → (vp_in ((11 * x2_1) + x2_2) 88 ∧ (((¬ (((S_2 22 ((11 * x2_1) + x2_2 : Int32).toNatClampNeg) : Int32) = 0)) → (vp_in x2_2 11 ∧ (∀ S11 : MST, S11 = ms S_2 30 (upd (S_2 30) (x2_2 : Int32).toNatClampNeg (vp_nar .boolean 0)) → (wl_X12_assumes_2 K_132 Post n_2 S11 x2_1 (x2_2 + 1))))) ∧ ((((S_2 22 ((11 * x2_1) + x2_2 : Int32).toNatClampNeg) : Int32) = 0) → (vp_in ((11 * x2_1) + x2_2) 88 ∧ (((((S_2 21 ((11 * x2_1) + x2_2 : Int32).toNatClampNeg) : Int32) = 0) → (vp_in x2_2 11 ∧ (∀ S14 : MST, S14 = ms S_2 30 (upd (S_2 30) (x2_2 : Int32).toNatClampNeg (vp_nar .boolean 0)) → (wl_X12_assumes_2 K_132 Post n_2 S14 x2_1 (x2_2 + 1))))) ∧ ((¬ (((S_2 21 ((11 * x2_1) + x2_2 : Int32).toNatClampNeg) : Int32) = 0)) → (vp_in x2_2 11 ∧ (∀ S15 : MST, S15 = ms S_2 30 (upd (S_2 30) (x2_2 : Int32).toNatClampNeg (vp_nar .boolean 1)) → (wl_X12_assumes_2 K_132 Post n_2 S15 x2_1 (x2_2 + 1))))))))))))))))) ∧ ((¬ (3 ≤ x2_2)) → (vp_in x2_1 8 ∧ ((((S_2 1 (x2_1 : Int32).toNatClampNeg) ≤ x2_2) → (vp_in x2_2 11 ∧ (∀ S18 : MST, S18 = ms S_2 30 (upd (S_2 30) (x2_2 : Int32).toNatClampNeg (vp_nar .boolean 0)) → (wl_X12_assumes_2 K_132 Post n_2 S18 x2_1 (x2_2 + 1))))) ∧ ((¬ ((S_2 1 (x2_1 : Int32).toNatClampNeg) ≤ x2_2)) → (wp_X12_has S_2 x2_1 1 x2_2 (fun r19 => (((r19 : Int32) = 0) → (vp_in x2_2 11 ∧ (∀ S21 : MST, S21 = ms S_2 30 (upd (S_2 30) (x2_2 : Int32).toNatClampNeg (vp_nar .boolean 0)) → (wl_X12_assumes_2 K_132 Post n_2 S21 x2_1 (x2_2 + 1))))) ∧ ((¬ ((r19 : Int32) = 0)) → (wp_X12_has S_2 x2_1 2 x2_2 (fun r22 => ((¬ ((r22 : Int32) = 0)) → (vp_in x2_2 11 ∧ (∀ S24 : MST, S24 = ms S_2 30 (upd (S_2 30) (x2_2 : Int32).toNatClampNeg (vp_nar .boolean 0)) → (wl_X12_assumes_2 K_132 Post n_2 S24 x2_1 (x2_2 + 1))))) ∧ (((r22 : Int32) = 0) → (vp_in ((11 * x2_1) + x2_2) 88 ∧ (((¬ (((S_2 22 ((11 * x2_1) + x2_2 : Int32).toNatClampNeg) : Int32) = 0)) → (vp_in x2_2 11 ∧ (∀ S27 : MST, S27 = ms S_2 30 (upd (S_2 30) (x2_2 : Int32).toNatClampNeg (vp_nar .boolean 0)) → (wl_X12_assumes_2 K_132 Post n_2 S27 x2_1 (x2_2 + 1))))) ∧ ((((S_2 22 ((11 * x2_1) + x2_2 : Int32).toNatClampNeg) : Int32) = 0) → (vp_in ((11 * x2_1) + x2_2) 88 ∧ (((((S_2 21 ((11 * x2_1) + x2_2 : Int32).toNatClampNeg) : Int32) = 0) → (vp_in x2_2 11 ∧ (∀ S30 : MST, S30 = ms S_2 30 (upd (S_2 30) (x2_2 : Int32).toNatClampNeg (vp_nar .boolean 0)) → (wl_X12_assumes_2 K_132 Post n_2 S30 x2_1 (x2_2 + 1))))) ∧ ((¬ (((S_2 21 ((11 * x2_1) + x2_2 : Int32).toNatClampNeg) : Int32) = 0)) → (vp_in x2_2 11 ∧ (∀ S31 : MST, S31 = ms S_2 30 (upd (S_2 30) (x2_2 : Int32).toNatClampNeg (vp_nar .boolean 1)) → (wl_X12_assumes_2 K_132 Post n_2 S31 x2_1 (x2_2 + 1))))))))))))))))))))))
def wp_X12_assumes (S : MST) (a1 : Int32) (Post : MST → Prop) : Prop :=
  ∃ n_2, wl_X12_assumes_2 (fun S_132 => Post S_132) Post n_2 S a1 0
def zw_zd_X12_assumes_w0 : List Cond := [.code yX12_has cX12_has 6 (some .boolean), .fieldLink RX12 16 "TemplateForgeModel" "many" "[I", .fieldLink RX12 29 "TemplateForgeModel" "depths" "[I", .fieldLink RX12 19 "TemplateForgeModel" "op" "[I", .fieldLink RX12 22 "TemplateForgeModel" "operand" "[I", .methodLink RX12 178 yX12_has, .instanceMethod yX12_has, .selects RX12 yX12_has yX12_has, .initialized RX12, .fieldLink RX12 96 "TemplateForgeModel" "assumed" "[Z", .fieldLink RX12 71 "TemplateForgeModel" "doesVary" "[Z", .fieldLink RX12 68 "TemplateForgeModel" "isLike" "[Z", .fieldLink RX12 7 "TemplateForgeModel" "args" "[I"]
def zw_zd_X12_assumes : List Cond := .code yX12_assumes cX12_assumes 4 none :: ((zw_zd_X12_assumes_w0) ++ wsX120)
set_option maxRecDepth 100000 in
theorem zg_zd_X12_assumes_zd_X12_has_178_a : GoodIn zw_zd_X12_assumes [.methodLink RX12 178 yX12_has, .instanceMethod yX12_has, .selects RX12 yX12_has yX12_has, .initialized RX12] := goodIn_r _ [6, 7, 8, 9] rfl (by decide +kernel)
set_option maxRecDepth 100000 in
theorem zg_zd_X12_assumes_zd_X12_has_178_c : GoodIn zw_zd_X12_assumes [.code yX12_has cX12_has 6 (some .boolean)] := goodIn_r _ [1] rfl (by decide +kernel)
set_option maxRecDepth 100000 in
theorem zg_zd_X12_assumes_zd_X12_has_178_0 : GoodIn zw_zd_X12_assumes zw_zd_X12_has_w0 := goodIn_r _ [2, 3, 4, 5] rfl (by decide +kernel)
theorem zg_zd_X12_assumes_zd_X12_has_178 : GoodIn zw_zd_X12_assumes (wsV RX12 178 RX12 yX12_has zw_zd_X12_has) := goodIn_app zg_zd_X12_assumes_zd_X12_has_178_a (goodIn_ca (a := (zw_zd_X12_has_w0)) (show GoodIn zw_zd_X12_assumes (.code yX12_has cX12_has 6 (some .boolean) :: (zw_zd_X12_has_w0)) from goodIn_app zg_zd_X12_assumes_zd_X12_has_178_c (zg_zd_X12_assumes_zd_X12_has_178_0)) (fun w h => ⟨(fun _ h => List.mem_cons_of_mem _ (List.mem_append_right _ h)) w h, good_of_word (List.all_eq_true.mp zgw_X12 w h)⟩))
set_option maxHeartbeats 16000000 in
set_option maxRecDepth 100000 in
theorem zd_X12_assumes (l : Launch) (D : va_G) (cI cZ cP cF : Nat) (h0 : Nat) (q : Nat → Nat) (S : MST) (a1 : Int32) (sz : Nat) (Post : MST → Prop) (h : wp_X12_assumes S a1 Post) : Met l yX12_assumes zw_zd_X12_assumes ({ frames := 1, cells := 0, slots := 0, locals := 25 }) (va_Pc [.ref h0, .int a1] (fun U => U.heap.size = sz ∧ va_P D vwCl (mW cI cZ h0 q S) U.heap ∧ zE D cI cZ cP cF U ∧ va_D (fun _ => True) (mW cI cZ h0 q S))) (va_Qv (fun S' => Post S') (fun (S' : MST) t => va_P D vwCl (mW cI cZ h0 q S') t.heap ∧ va_D (va_A (mW cI cZ h0 q S) sz) (mW cI cZ h0 q S')) (va_A (mW cI cZ h0 q S) sz)) 0 0 (va_A (mW cI cZ h0 q S) sz) := by
  unfold wp_X12_assumes at h
  refine Met.ofW (cc := cX12_assumes) (maxL := 4) (ret := none) (by decide) rfl ?_
  intro p e s m args below meth c s₁ B hml hv
  obtain ⟨rfl, hsz, hP, hE, hD0⟩ := hv
  have hx := B.exec
  have hb := B.bytes
  have hr := B.returns
  have hts := atoms_spec (ws := zw_zd_X12_assumes) B.pre
  have hown : s.vm.findClass RX12 = some m.cls := findClass_of_methodNamed B.named
  have hlocks := B.notSynchronized
  have hK := hE.k
  subst hsz
  have hD := hD0.self (sz := s.heap.size)
  generalize hAe : va_A (mW cI cZ h0 q S) s.heap.size = A at hD ⊢
  have hA : ∀ q : Nat, s.heap.size ≤ q → A q := fun q h => by rw [← hAe]; exact Or.inr h
  have hl := lv_entry ([.ref h0, .int a1]) (n := 4) (Nat.le_of_ble_eq_true rfl)
  rw [lg_entry_eq]
  generalize (lg_sl ([.ref h0, .int a1]) ++ List.replicate (4 - (lg_sl ([.ref h0, .int a1])).length) Slot.unset).toArray = ls at hl ⊢
  have hl : lv_has ls 4 [(0, .ref h0), (1, .int a1)] := hl
  have key : ∀ (H : Heap) (locs : List Loc), va_P D vwCl (mW cI cZ h0 q S) H → va_S A s.heap H locs → W p l e (headSpec zw_zd_X12_assumes ({ frames := 1, cells := 0, slots := 0, locals := 25 })).room s m ([.ref h0, .int a1] : List Value).toArray below meth c H locs 0 0 (MQ below (va_Qv (fun S' => Post S') (fun (S' : MST) t => va_P D vwCl (mW cI cZ h0 q S') t.heap ∧ va_D A (mW cI cZ h0 q S')) A) ([.ref h0, .int a1] : List Value).toArray s 0 0 A) (F0 m 0 ls []) := by
    intro H locs hP hS
    refine lv_iconst (v := 0) hx hb dX12_assumes_0 (by decide) ?_
    refine lv_istore_n (lv' := [(2, .int 0), (0, .ref h0), (1, .int a1)]) hx hb dX12_assumes_1 rfl hl (by decide) rfl (fun ls hl => ?_)
    have EX_2_132 : ∀ (S_132 : MST) (H : Heap) (locs : List Loc) (ls : Array Slot), (Post S_132) → va_P D vwCl (mW cI cZ h0 q S_132) H → va_D A (mW cI cZ h0 q S_132) → va_S A s.heap H locs → lv_has ls 4 [] → W p l e (headSpec zw_zd_X12_assumes ({ frames := 1, cells := 0, slots := 0, locals := 25 })).room s m ([.ref h0, .int a1] : List Value).toArray below meth c H locs 0 0 (MQ below (va_Qv (fun S' => Post S') (fun (S' : MST) t => va_P D vwCl (mW cI cZ h0 q S') t.heap ∧ va_D A (mW cI cZ h0 q S')) A) ([.ref h0, .int a1] : List Value).toArray s 0 0 A) (F0 m 132 ls []) := by
      intro S_132  H locs ls h hP hD hS hl
      exact W.vret hx hb hr (fun t ht hW => ⟨⟨S_132, rfl, h, by rw [ht]; exact hP, hD⟩, hS.F ht⟩) hS.2.2 dX12_assumes_132
    have LP_2 : ∀ (n_2 : Nat), ∀ (S_2 : MST) (x2_1 : Int32) (x2_2 : Int32) (H : Heap) (locs : List Loc) (ls : Array Slot), wl_X12_assumes_2 (fun S_132 => Post S_132) Post n_2 S_2 x2_1 x2_2 → va_P D vwCl (mW cI cZ h0 q S_2) H → va_D A (mW cI cZ h0 q S_2) → va_S A s.heap H locs → lv_has ls 4 [(0, .ref h0), (1, .int x2_1), (2, .int x2_2)] → W p l e (headSpec zw_zd_X12_assumes ({ frames := 1, cells := 0, slots := 0, locals := 25 })).room s m ([.ref h0, .int a1] : List Value).toArray below meth c H locs 0 0 (MQ below (va_Qv (fun S' => Post S') (fun (S' : MST) t => va_P D vwCl (mW cI cZ h0 q S') t.heap ∧ va_D A (mW cI cZ h0 q S')) A) ([.ref h0, .int a1] : List Value).toArray s 0 0 A) (F0 m 2 ls []) := by
      intro n_2
      induction n_2 with
      | zero =>
        intro S_2 x2_1 x2_2 H locs ls h hP hD hS hl
        exact False.elim h
      | succ n_2 ih_2 =>
        intro S_2 x2_1 x2_2 H locs ls h hP hD hS hl
        unfold wl_X12_assumes_2 at h
        refine lv_iload_n hx hb dX12_assumes_2 rfl (lv_at hl 2 rfl) ?_
        refine lv_bipush (v := 11) hx hb dX12_assumes_3 (by decide) ?_
        refine lv_icmp_ge (tgt := 132) hx hb dX12_assumes_5 (by decide) (fun c_1 => ?_) (fun c_1 => ?_)
        · have h := h.1 c_1
          exact EX_2_132  S_2  H locs _ h hP hD hS (lv_sub hl [] rfl)
        · have h := h.2 c_1
          refine lv_iload_n hx hb dX12_assumes_8 rfl (lv_at hl 2 rfl) ?_
          refine lv_iconst (v := 3) hx hb dX12_assumes_9 (by decide) ?_
          refine lv_icmp_ge (tgt := 51) hx hb dX12_assumes_10 (by decide) (fun c_2 => ?_) (fun c_2 => ?_)
          · have h := h.1 c_2
            refine lv_aload_n hx hb dX12_assumes_51 rfl (lv_at hl 0 rfl) ?_
            refine lv_iload_n hx hb dX12_assumes_52 rfl (lv_at hl 1 rfl) ?_
            refine lv_bipush (v := 13) hx hb dX12_assumes_53 (by decide) ?_
            refine lv_iload_n hx hb dX12_assumes_55 rfl (lv_at hl 2 rfl) ?_
            refine lv_iconst (v := 3) hx hb dX12_assumes_56 (by decide) ?_
            refine lv_isub hx hb dX12_assumes_57 ?_
            refine vp_callSi (va_Run.run (va_runV (As := [.int x2_1, .int 13, .int (x2_2 - 3)]) (rest := []) ⟨hx, hb, hml, hown, hts⟩ (zd_X12_has l D cI cZ cP cF h0 q S_2 x2_1 13 (x2_2 - 3)  _ h) (cwV 3 hts zg_zd_X12_assumes_zd_X12_has_178 rfl rfl rfl (by decide +kernel) ⟨Nat.le_of_ble_eq_true rfl, Nat.le_of_ble_eq_true rfl⟩) ⟨zBR, va_recv hK hP (ci := 12) (q0 := 0) rfl rfl, fun U hU hW => ⟨rfl, by rw [hU]; exact hP, hE.warm hW⟩⟩ rfl rfl hl.1 rfl (lv_room (Nat.le_of_ble_eq_true rfl)) dX12_assumes_58 ⟨Nat.le_of_ble_eq_true rfl, Nat.le_of_ble_eq_true rfl⟩)) (fun r3 h => ?_)
            refine lv_if_eq (tgt := 81) hx hb dX12_assumes_61 (by decide) (fun c_4 => ?_) (fun c_4 => ?_)
            · have h := h.1 c_4
              refine lv_iconst (v := 0) hx hb dX12_assumes_81 (by decide) ?_
              refine lv_istore_n (lv' := [(3, .int 0), (0, .ref h0), (1, .int x2_1), (2, .int x2_2)]) hx hb dX12_assumes_82 rfl hl (by decide) rfl (fun ls hl => ?_)
              refine lv_aload_n hx hb dX12_assumes_83 rfl (lv_at hl 1 rfl) ?_
              refine va_get (D := D) (ci := 12) (v := .ref (q 30)) (C := RX12) (T := TX12) (N := 52) hx hb hts (fun _ h => List.mem_cons_of_mem _ (List.mem_append_right _ h)) hown hK hP 0 rfl rfl 30 (by decide) (hts (.fieldLink RX12 96 "TemplateForgeModel" "assumed" "[Z") (List.mem_of_getElem? (i := 10) rfl)) (fun _ h9 => h9) rfl dX12_assumes_84 ?_
              refine lv_iload_n hx hb dX12_assumes_87 rfl (lv_at hl 3 rfl) ?_
              refine lv_iload_n hx hb dX12_assumes_88 rfl (lv_at hl 0 rfl) ?_
              refine lv_if_eq (tgt := 124) hx hb dX12_assumes_89 (by decide) (fun _ => ?_) (fun c => absurd (by decide) c)
              refine lv_iconst (v := 0) hx hb dX12_assumes_124 (by decide) ?_
              have hin_5 := h.1
              have h := h.2
              refine va_zast hx hb hK hP hD hS 29 1 rfl rfl hin_5 dX12_assumes_125 (fun H locs hP hD hS => ?_)
              obtain ⟨S5, eS5⟩ : ∃ z, z = ms S_2 30 (upd (S_2 30) (x2_2 : Int32).toNatClampNeg (vp_nar .boolean 0)) := ⟨_, rfl⟩
              have hP : va_P D vwCl (mW cI cZ h0 q S5) H := by rw [eS5]; exact hP
              have hD : va_D A (mW cI cZ h0 q S5) := by rw [eS5]; exact hD
              have h := h S5 eS5
              refine lv_iinc (v := x2_2 + 1) (lv' := [(2, .int (x2_2 + 1)), (3, .int 0), (0, .ref h0), (1, .int x2_1)]) hx hb dX12_assumes_126 hl (k := 3) rfl rfl (by decide) rfl (fun ls hl => ?_)
              refine lv_goto (tgt := 2) hx hb dX12_assumes_129 (by decide) ?_
              exact ih_2  S5 x2_1 (x2_2 + 1) H locs _ h hP hD hS (lv_sub hl [2, 3, 0] rfl)
            · have h := h.2 c_4
              refine lv_aload_n hx hb dX12_assumes_64 rfl (lv_at hl 0 rfl) ?_
              refine lv_iload_n hx hb dX12_assumes_65 rfl (lv_at hl 1 rfl) ?_
              refine lv_bipush (v := 14) hx hb dX12_assumes_66 (by decide) ?_
              refine lv_iload_n hx hb dX12_assumes_68 rfl (lv_at hl 2 rfl) ?_
              refine lv_iconst (v := 3) hx hb dX12_assumes_69 (by decide) ?_
              refine lv_isub hx hb dX12_assumes_70 ?_
              refine vp_callSi (va_Run.run (va_runV (As := [.int x2_1, .int 14, .int (x2_2 - 3)]) (rest := []) ⟨hx, hb, hml, hown, hts⟩ (zd_X12_has l D cI cZ cP cF h0 q S_2 x2_1 14 (x2_2 - 3)  _ h) (cwV 3 hts zg_zd_X12_assumes_zd_X12_has_178 rfl rfl rfl (by decide +kernel) ⟨Nat.le_of_ble_eq_true rfl, Nat.le_of_ble_eq_true rfl⟩) ⟨zBR, va_recv hK hP (ci := 12) (q0 := 0) rfl rfl, fun U hU hW => ⟨rfl, by rw [hU]; exact hP, hE.warm hW⟩⟩ rfl rfl hl.1 rfl (lv_room (Nat.le_of_ble_eq_true rfl)) dX12_assumes_71 ⟨Nat.le_of_ble_eq_true rfl, Nat.le_of_ble_eq_true rfl⟩)) (fun r6 h => ?_)
              refine lv_if_ne (tgt := 81) hx hb dX12_assumes_74 (by decide) (fun c_7 => ?_) (fun c_7 => ?_)
              · have h := h.1 c_7
                refine lv_iconst (v := 0) hx hb dX12_assumes_81 (by decide) ?_
                refine lv_istore_n (lv' := [(3, .int 0), (0, .ref h0), (1, .int x2_1), (2, .int x2_2)]) hx hb dX12_assumes_82 rfl hl (by decide) rfl (fun ls hl => ?_)
                refine lv_aload_n hx hb dX12_assumes_83 rfl (lv_at hl 1 rfl) ?_
                refine va_get (D := D) (ci := 12) (v := .ref (q 30)) (C := RX12) (T := TX12) (N := 52) hx hb hts (fun _ h => List.mem_cons_of_mem _ (List.mem_append_right _ h)) hown hK hP 0 rfl rfl 30 (by decide) (hts (.fieldLink RX12 96 "TemplateForgeModel" "assumed" "[Z") (List.mem_of_getElem? (i := 10) rfl)) (fun _ h9 => h9) rfl dX12_assumes_84 ?_
                refine lv_iload_n hx hb dX12_assumes_87 rfl (lv_at hl 3 rfl) ?_
                refine lv_iload_n hx hb dX12_assumes_88 rfl (lv_at hl 0 rfl) ?_
                refine lv_if_eq (tgt := 124) hx hb dX12_assumes_89 (by decide) (fun _ => ?_) (fun c => absurd (by decide) c)
                refine lv_iconst (v := 0) hx hb dX12_assumes_124 (by decide) ?_
                have hin_8 := h.1
                have h := h.2
                refine va_zast hx hb hK hP hD hS 29 1 rfl rfl hin_8 dX12_assumes_125 (fun H locs hP hD hS => ?_)
                obtain ⟨S8, eS8⟩ : ∃ z, z = ms S_2 30 (upd (S_2 30) (x2_2 : Int32).toNatClampNeg (vp_nar .boolean 0)) := ⟨_, rfl⟩
                have hP : va_P D vwCl (mW cI cZ h0 q S8) H := by rw [eS8]; exact hP
                have hD : va_D A (mW cI cZ h0 q S8) := by rw [eS8]; exact hD
                have h := h S8 eS8
                refine lv_iinc (v := x2_2 + 1) (lv' := [(2, .int (x2_2 + 1)), (3, .int 0), (0, .ref h0), (1, .int x2_1)]) hx hb dX12_assumes_126 hl (k := 3) rfl rfl (by decide) rfl (fun ls hl => ?_)
                refine lv_goto (tgt := 2) hx hb dX12_assumes_129 (by decide) ?_
                exact ih_2  S8 x2_1 (x2_2 + 1) H locs _ h hP hD hS (lv_sub hl [2, 3, 0] rfl)
              · have h := h.2 c_7
                refine lv_iconst (v := 1) hx hb dX12_assumes_77 (by decide) ?_
                refine lv_goto (tgt := 82) hx hb dX12_assumes_78 (by decide) ?_
                refine lv_istore_n (lv' := [(3, .int 1), (0, .ref h0), (1, .int x2_1), (2, .int x2_2)]) hx hb dX12_assumes_82 rfl hl (by decide) rfl (fun ls hl => ?_)
                refine lv_aload_n hx hb dX12_assumes_83 rfl (lv_at hl 1 rfl) ?_
                refine va_get (D := D) (ci := 12) (v := .ref (q 30)) (C := RX12) (T := TX12) (N := 52) hx hb hts (fun _ h => List.mem_cons_of_mem _ (List.mem_append_right _ h)) hown hK hP 0 rfl rfl 30 (by decide) (hts (.fieldLink RX12 96 "TemplateForgeModel" "assumed" "[Z") (List.mem_of_getElem? (i := 10) rfl)) (fun _ h9 => h9) rfl dX12_assumes_84 ?_
                refine lv_iload_n hx hb dX12_assumes_87 rfl (lv_at hl 3 rfl) ?_
                refine lv_iload_n hx hb dX12_assumes_88 rfl (lv_at hl 0 rfl) ?_
                refine lv_if_eq (tgt := 124) hx hb dX12_assumes_89 (by decide) (fun c => absurd c (by decide)) (fun _ => ?_)
                refine lv_aload_n hx hb dX12_assumes_92 rfl (lv_at hl 1 rfl) ?_
                refine va_get (D := D) (ci := 12) (v := .ref (q 22)) (C := RX12) (T := TX12) (N := 52) hx hb hts (fun _ h => List.mem_cons_of_mem _ (List.mem_append_right _ h)) hown hK hP 0 rfl rfl 22 (by decide) (hts (.fieldLink RX12 71 "TemplateForgeModel" "doesVary" "[Z") (List.mem_of_getElem? (i := 11) rfl)) (fun _ h9 => h9) rfl dX12_assumes_93 ?_
                refine lv_bipush (v := 11) hx hb dX12_assumes_96 (by decide) ?_
                refine lv_iload_n hx hb dX12_assumes_98 rfl (lv_at hl 2 rfl) ?_
                refine lv_imul hx hb dX12_assumes_99 ?_
                refine lv_iload_n hx hb dX12_assumes_100 rfl (lv_at hl 3 rfl) ?_
                refine lv_iadd hx hb dX12_assumes_101 ?_
                have hin_9 := h.1
                have h := h.2
                refine va_zald hx hb hK hP 21 1 rfl rfl hin_9 dX12_assumes_102 ?_
                refine lv_if_ne (tgt := 124) hx hb dX12_assumes_103 (by decide) (fun c_10 => ?_) (fun c_10 => ?_)
                · have h := h.1 c_10
                  refine lv_iconst (v := 0) hx hb dX12_assumes_124 (by decide) ?_
                  have hin_11 := h.1
                  have h := h.2
                  refine va_zast hx hb hK hP hD hS 29 1 rfl rfl hin_11 dX12_assumes_125 (fun H locs hP hD hS => ?_)
                  obtain ⟨S11, eS11⟩ : ∃ z, z = ms S_2 30 (upd (S_2 30) (x2_2 : Int32).toNatClampNeg (vp_nar .boolean 0)) := ⟨_, rfl⟩
                  have hP : va_P D vwCl (mW cI cZ h0 q S11) H := by rw [eS11]; exact hP
                  have hD : va_D A (mW cI cZ h0 q S11) := by rw [eS11]; exact hD
                  have h := h S11 eS11
                  refine lv_iinc (v := x2_2 + 1) (lv' := [(2, .int (x2_2 + 1)), (3, .int 1), (0, .ref h0), (1, .int x2_1)]) hx hb dX12_assumes_126 hl (k := 3) rfl rfl (by decide) rfl (fun ls hl => ?_)
                  refine lv_goto (tgt := 2) hx hb dX12_assumes_129 (by decide) ?_
                  exact ih_2  S11 x2_1 (x2_2 + 1) H locs _ h hP hD hS (lv_sub hl [2, 3, 0] rfl)
                · have h := h.2 c_10
                  refine lv_aload_n hx hb dX12_assumes_106 rfl (lv_at hl 1 rfl) ?_
                  refine va_get (D := D) (ci := 12) (v := .ref (q 21)) (C := RX12) (T := TX12) (N := 52) hx hb hts (fun _ h => List.mem_cons_of_mem _ (List.mem_append_right _ h)) hown hK hP 0 rfl rfl 21 (by decide) (hts (.fieldLink RX12 68 "TemplateForgeModel" "isLike" "[Z") (List.mem_of_getElem? (i := 12) rfl)) (fun _ h9 => h9) rfl dX12_assumes_107 ?_
                  refine lv_bipush (v := 11) hx hb dX12_assumes_110 (by decide) ?_
                  refine lv_iload_n hx hb dX12_assumes_112 rfl (lv_at hl 2 rfl) ?_
                  refine lv_imul hx hb dX12_assumes_113 ?_
                  refine lv_iload_n hx hb dX12_assumes_114 rfl (lv_at hl 3 rfl) ?_
                  refine lv_iadd hx hb dX12_assumes_115 ?_
                  have hin_12 := h.1
                  have h := h.2
                  refine va_zald hx hb hK hP 20 1 rfl rfl hin_12 dX12_assumes_116 ?_
                  refine lv_if_eq (tgt := 124) hx hb dX12_assumes_117 (by decide) (fun c_13 => ?_) (fun c_13 => ?_)
                  · have h := h.1 c_13
                    refine lv_iconst (v := 0) hx hb dX12_assumes_124 (by decide) ?_
                    have hin_14 := h.1
                    have h := h.2
                    refine va_zast hx hb hK hP hD hS 29 1 rfl rfl hin_14 dX12_assumes_125 (fun H locs hP hD hS => ?_)
                    obtain ⟨S14, eS14⟩ : ∃ z, z = ms S_2 30 (upd (S_2 30) (x2_2 : Int32).toNatClampNeg (vp_nar .boolean 0)) := ⟨_, rfl⟩
                    have hP : va_P D vwCl (mW cI cZ h0 q S14) H := by rw [eS14]; exact hP
                    have hD : va_D A (mW cI cZ h0 q S14) := by rw [eS14]; exact hD
                    have h := h S14 eS14
                    refine lv_iinc (v := x2_2 + 1) (lv' := [(2, .int (x2_2 + 1)), (3, .int 1), (0, .ref h0), (1, .int x2_1)]) hx hb dX12_assumes_126 hl (k := 3) rfl rfl (by decide) rfl (fun ls hl => ?_)
                    refine lv_goto (tgt := 2) hx hb dX12_assumes_129 (by decide) ?_
                    exact ih_2  S14 x2_1 (x2_2 + 1) H locs _ h hP hD hS (lv_sub hl [2, 3, 0] rfl)
                  · have h := h.2 c_13
                    refine lv_iconst (v := 1) hx hb dX12_assumes_120 (by decide) ?_
                    refine lv_goto (tgt := 125) hx hb dX12_assumes_121 (by decide) ?_
                    have hin_15 := h.1
                    have h := h.2
                    refine va_zast hx hb hK hP hD hS 29 1 rfl rfl hin_15 dX12_assumes_125 (fun H locs hP hD hS => ?_)
                    obtain ⟨S15, eS15⟩ : ∃ z, z = ms S_2 30 (upd (S_2 30) (x2_2 : Int32).toNatClampNeg (vp_nar .boolean 1)) := ⟨_, rfl⟩
                    have hP : va_P D vwCl (mW cI cZ h0 q S15) H := by rw [eS15]; exact hP
                    have hD : va_D A (mW cI cZ h0 q S15) := by rw [eS15]; exact hD
                    have h := h S15 eS15
                    refine lv_iinc (v := x2_2 + 1) (lv' := [(2, .int (x2_2 + 1)), (3, .int 1), (0, .ref h0), (1, .int x2_1)]) hx hb dX12_assumes_126 hl (k := 3) rfl rfl (by decide) rfl (fun ls hl => ?_)
                    refine lv_goto (tgt := 2) hx hb dX12_assumes_129 (by decide) ?_
                    exact ih_2  S15 x2_1 (x2_2 + 1) H locs _ h hP hD hS (lv_sub hl [2, 3, 0] rfl)
          · have h := h.2 c_2
            refine lv_iload_n hx hb dX12_assumes_13 rfl (lv_at hl 2 rfl) ?_
            refine lv_aload_n hx hb dX12_assumes_14 rfl (lv_at hl 0 rfl) ?_
            refine va_get (D := D) (ci := 12) (v := .ref (q 1)) (C := RX12) (T := TX12) (N := 52) hx hb hts (fun _ h => List.mem_cons_of_mem _ (List.mem_append_right _ h)) hown hK hP 0 rfl rfl 1 (by decide) (hts (.fieldLink RX12 7 "TemplateForgeModel" "args" "[I") (List.mem_of_getElem? (i := 13) rfl)) (fun _ h9 => h9) rfl dX12_assumes_15 ?_
            refine lv_iload_n hx hb dX12_assumes_18 rfl (lv_at hl 1 rfl) ?_
            have hin_16 := h.1
            have h := h.2
            refine va_iald hx hb hK hP 1 0 rfl rfl hin_16 dX12_assumes_19 ?_
            refine lv_icmp_ge (tgt := 47) hx hb dX12_assumes_20 (by decide) (fun c_17 => ?_) (fun c_17 => ?_)
            · have h := h.1 c_17
              refine lv_iconst (v := 0) hx hb dX12_assumes_47 (by decide) ?_
              refine lv_goto (tgt := 82) hx hb dX12_assumes_48 (by decide) ?_
              refine lv_istore_n (lv' := [(3, .int 0), (0, .ref h0), (1, .int x2_1), (2, .int x2_2)]) hx hb dX12_assumes_82 rfl hl (by decide) rfl (fun ls hl => ?_)
              refine lv_aload_n hx hb dX12_assumes_83 rfl (lv_at hl 1 rfl) ?_
              refine va_get (D := D) (ci := 12) (v := .ref (q 30)) (C := RX12) (T := TX12) (N := 52) hx hb hts (fun _ h => List.mem_cons_of_mem _ (List.mem_append_right _ h)) hown hK hP 0 rfl rfl 30 (by decide) (hts (.fieldLink RX12 96 "TemplateForgeModel" "assumed" "[Z") (List.mem_of_getElem? (i := 10) rfl)) (fun _ h9 => h9) rfl dX12_assumes_84 ?_
              refine lv_iload_n hx hb dX12_assumes_87 rfl (lv_at hl 3 rfl) ?_
              refine lv_iload_n hx hb dX12_assumes_88 rfl (lv_at hl 0 rfl) ?_
              refine lv_if_eq (tgt := 124) hx hb dX12_assumes_89 (by decide) (fun _ => ?_) (fun c => absurd (by decide) c)
              refine lv_iconst (v := 0) hx hb dX12_assumes_124 (by decide) ?_
              have hin_18 := h.1
              have h := h.2
              refine va_zast hx hb hK hP hD hS 29 1 rfl rfl hin_18 dX12_assumes_125 (fun H locs hP hD hS => ?_)
              obtain ⟨S18, eS18⟩ : ∃ z, z = ms S_2 30 (upd (S_2 30) (x2_2 : Int32).toNatClampNeg (vp_nar .boolean 0)) := ⟨_, rfl⟩
              have hP : va_P D vwCl (mW cI cZ h0 q S18) H := by rw [eS18]; exact hP
              have hD : va_D A (mW cI cZ h0 q S18) := by rw [eS18]; exact hD
              have h := h S18 eS18
              refine lv_iinc (v := x2_2 + 1) (lv' := [(2, .int (x2_2 + 1)), (3, .int 0), (0, .ref h0), (1, .int x2_1)]) hx hb dX12_assumes_126 hl (k := 3) rfl rfl (by decide) rfl (fun ls hl => ?_)
              refine lv_goto (tgt := 2) hx hb dX12_assumes_129 (by decide) ?_
              exact ih_2  S18 x2_1 (x2_2 + 1) H locs _ h hP hD hS (lv_sub hl [2, 3, 0] rfl)
            · have h := h.2 c_17
              refine lv_aload_n hx hb dX12_assumes_23 rfl (lv_at hl 0 rfl) ?_
              refine lv_iload_n hx hb dX12_assumes_24 rfl (lv_at hl 1 rfl) ?_
              refine lv_iconst (v := 1) hx hb dX12_assumes_25 (by decide) ?_
              refine lv_iload_n hx hb dX12_assumes_26 rfl (lv_at hl 2 rfl) ?_
              refine vp_callSi (va_Run.run (va_runV (As := [.int x2_1, .int 1, .int x2_2]) (rest := []) ⟨hx, hb, hml, hown, hts⟩ (zd_X12_has l D cI cZ cP cF h0 q S_2 x2_1 1 x2_2  _ h) (cwV 3 hts zg_zd_X12_assumes_zd_X12_has_178 rfl rfl rfl (by decide +kernel) ⟨Nat.le_of_ble_eq_true rfl, Nat.le_of_ble_eq_true rfl⟩) ⟨zBR, va_recv hK hP (ci := 12) (q0 := 0) rfl rfl, fun U hU hW => ⟨rfl, by rw [hU]; exact hP, hE.warm hW⟩⟩ rfl rfl hl.1 rfl (lv_room (Nat.le_of_ble_eq_true rfl)) dX12_assumes_27 ⟨Nat.le_of_ble_eq_true rfl, Nat.le_of_ble_eq_true rfl⟩)) (fun r19 h => ?_)
              refine lv_if_eq (tgt := 47) hx hb dX12_assumes_30 (by decide) (fun c_20 => ?_) (fun c_20 => ?_)
              · have h := h.1 c_20
                refine lv_iconst (v := 0) hx hb dX12_assumes_47 (by decide) ?_
                refine lv_goto (tgt := 82) hx hb dX12_assumes_48 (by decide) ?_
                refine lv_istore_n (lv' := [(3, .int 0), (0, .ref h0), (1, .int x2_1), (2, .int x2_2)]) hx hb dX12_assumes_82 rfl hl (by decide) rfl (fun ls hl => ?_)
                refine lv_aload_n hx hb dX12_assumes_83 rfl (lv_at hl 1 rfl) ?_
                refine va_get (D := D) (ci := 12) (v := .ref (q 30)) (C := RX12) (T := TX12) (N := 52) hx hb hts (fun _ h => List.mem_cons_of_mem _ (List.mem_append_right _ h)) hown hK hP 0 rfl rfl 30 (by decide) (hts (.fieldLink RX12 96 "TemplateForgeModel" "assumed" "[Z") (List.mem_of_getElem? (i := 10) rfl)) (fun _ h9 => h9) rfl dX12_assumes_84 ?_
                refine lv_iload_n hx hb dX12_assumes_87 rfl (lv_at hl 3 rfl) ?_
                refine lv_iload_n hx hb dX12_assumes_88 rfl (lv_at hl 0 rfl) ?_
                refine lv_if_eq (tgt := 124) hx hb dX12_assumes_89 (by decide) (fun _ => ?_) (fun c => absurd (by decide) c)
                refine lv_iconst (v := 0) hx hb dX12_assumes_124 (by decide) ?_
                have hin_21 := h.1
                have h := h.2
                refine va_zast hx hb hK hP hD hS 29 1 rfl rfl hin_21 dX12_assumes_125 (fun H locs hP hD hS => ?_)
                obtain ⟨S21, eS21⟩ : ∃ z, z = ms S_2 30 (upd (S_2 30) (x2_2 : Int32).toNatClampNeg (vp_nar .boolean 0)) := ⟨_, rfl⟩
                have hP : va_P D vwCl (mW cI cZ h0 q S21) H := by rw [eS21]; exact hP
                have hD : va_D A (mW cI cZ h0 q S21) := by rw [eS21]; exact hD
                have h := h S21 eS21
                refine lv_iinc (v := x2_2 + 1) (lv' := [(2, .int (x2_2 + 1)), (3, .int 0), (0, .ref h0), (1, .int x2_1)]) hx hb dX12_assumes_126 hl (k := 3) rfl rfl (by decide) rfl (fun ls hl => ?_)
                refine lv_goto (tgt := 2) hx hb dX12_assumes_129 (by decide) ?_
                exact ih_2  S21 x2_1 (x2_2 + 1) H locs _ h hP hD hS (lv_sub hl [2, 3, 0] rfl)
              · have h := h.2 c_20
                refine lv_aload_n hx hb dX12_assumes_33 rfl (lv_at hl 0 rfl) ?_
                refine lv_iload_n hx hb dX12_assumes_34 rfl (lv_at hl 1 rfl) ?_
                refine lv_iconst (v := 2) hx hb dX12_assumes_35 (by decide) ?_
                refine lv_iload_n hx hb dX12_assumes_36 rfl (lv_at hl 2 rfl) ?_
                refine vp_callSi (va_Run.run (va_runV (As := [.int x2_1, .int 2, .int x2_2]) (rest := []) ⟨hx, hb, hml, hown, hts⟩ (zd_X12_has l D cI cZ cP cF h0 q S_2 x2_1 2 x2_2  _ h) (cwV 3 hts zg_zd_X12_assumes_zd_X12_has_178 rfl rfl rfl (by decide +kernel) ⟨Nat.le_of_ble_eq_true rfl, Nat.le_of_ble_eq_true rfl⟩) ⟨zBR, va_recv hK hP (ci := 12) (q0 := 0) rfl rfl, fun U hU hW => ⟨rfl, by rw [hU]; exact hP, hE.warm hW⟩⟩ rfl rfl hl.1 rfl (lv_room (Nat.le_of_ble_eq_true rfl)) dX12_assumes_37 ⟨Nat.le_of_ble_eq_true rfl, Nat.le_of_ble_eq_true rfl⟩)) (fun r22 h => ?_)
                refine lv_if_ne (tgt := 47) hx hb dX12_assumes_40 (by decide) (fun c_23 => ?_) (fun c_23 => ?_)
                · have h := h.1 c_23
                  refine lv_iconst (v := 0) hx hb dX12_assumes_47 (by decide) ?_
                  refine lv_goto (tgt := 82) hx hb dX12_assumes_48 (by decide) ?_
                  refine lv_istore_n (lv' := [(3, .int 0), (0, .ref h0), (1, .int x2_1), (2, .int x2_2)]) hx hb dX12_assumes_82 rfl hl (by decide) rfl (fun ls hl => ?_)
                  refine lv_aload_n hx hb dX12_assumes_83 rfl (lv_at hl 1 rfl) ?_
                  refine va_get (D := D) (ci := 12) (v := .ref (q 30)) (C := RX12) (T := TX12) (N := 52) hx hb hts (fun _ h => List.mem_cons_of_mem _ (List.mem_append_right _ h)) hown hK hP 0 rfl rfl 30 (by decide) (hts (.fieldLink RX12 96 "TemplateForgeModel" "assumed" "[Z") (List.mem_of_getElem? (i := 10) rfl)) (fun _ h9 => h9) rfl dX12_assumes_84 ?_
                  refine lv_iload_n hx hb dX12_assumes_87 rfl (lv_at hl 3 rfl) ?_
                  refine lv_iload_n hx hb dX12_assumes_88 rfl (lv_at hl 0 rfl) ?_
                  refine lv_if_eq (tgt := 124) hx hb dX12_assumes_89 (by decide) (fun _ => ?_) (fun c => absurd (by decide) c)
                  refine lv_iconst (v := 0) hx hb dX12_assumes_124 (by decide) ?_
                  have hin_24 := h.1
                  have h := h.2
                  refine va_zast hx hb hK hP hD hS 29 1 rfl rfl hin_24 dX12_assumes_125 (fun H locs hP hD hS => ?_)
                  obtain ⟨S24, eS24⟩ : ∃ z, z = ms S_2 30 (upd (S_2 30) (x2_2 : Int32).toNatClampNeg (vp_nar .boolean 0)) := ⟨_, rfl⟩
                  have hP : va_P D vwCl (mW cI cZ h0 q S24) H := by rw [eS24]; exact hP
                  have hD : va_D A (mW cI cZ h0 q S24) := by rw [eS24]; exact hD
                  have h := h S24 eS24
                  refine lv_iinc (v := x2_2 + 1) (lv' := [(2, .int (x2_2 + 1)), (3, .int 0), (0, .ref h0), (1, .int x2_1)]) hx hb dX12_assumes_126 hl (k := 3) rfl rfl (by decide) rfl (fun ls hl => ?_)
                  refine lv_goto (tgt := 2) hx hb dX12_assumes_129 (by decide) ?_
                  exact ih_2  S24 x2_1 (x2_2 + 1) H locs _ h hP hD hS (lv_sub hl [2, 3, 0] rfl)
                · have h := h.2 c_23
                  refine lv_iconst (v := 1) hx hb dX12_assumes_43 (by decide) ?_
                  refine lv_goto (tgt := 82) hx hb dX12_assumes_44 (by decide) ?_
                  refine lv_istore_n (lv' := [(3, .int 1), (0, .ref h0), (1, .int x2_1), (2, .int x2_2)]) hx hb dX12_assumes_82 rfl hl (by decide) rfl (fun ls hl => ?_)
                  refine lv_aload_n hx hb dX12_assumes_83 rfl (lv_at hl 1 rfl) ?_
                  refine va_get (D := D) (ci := 12) (v := .ref (q 30)) (C := RX12) (T := TX12) (N := 52) hx hb hts (fun _ h => List.mem_cons_of_mem _ (List.mem_append_right _ h)) hown hK hP 0 rfl rfl 30 (by decide) (hts (.fieldLink RX12 96 "TemplateForgeModel" "assumed" "[Z") (List.mem_of_getElem? (i := 10) rfl)) (fun _ h9 => h9) rfl dX12_assumes_84 ?_
                  refine lv_iload_n hx hb dX12_assumes_87 rfl (lv_at hl 3 rfl) ?_
                  refine lv_iload_n hx hb dX12_assumes_88 rfl (lv_at hl 0 rfl) ?_
                  refine lv_if_eq (tgt := 124) hx hb dX12_assumes_89 (by decide) (fun c => absurd c (by decide)) (fun _ => ?_)
                  refine lv_aload_n hx hb dX12_assumes_92 rfl (lv_at hl 1 rfl) ?_
                  refine va_get (D := D) (ci := 12) (v := .ref (q 22)) (C := RX12) (T := TX12) (N := 52) hx hb hts (fun _ h => List.mem_cons_of_mem _ (List.mem_append_right _ h)) hown hK hP 0 rfl rfl 22 (by decide) (hts (.fieldLink RX12 71 "TemplateForgeModel" "doesVary" "[Z") (List.mem_of_getElem? (i := 11) rfl)) (fun _ h9 => h9) rfl dX12_assumes_93 ?_
                  refine lv_bipush (v := 11) hx hb dX12_assumes_96 (by decide) ?_
                  refine lv_iload_n hx hb dX12_assumes_98 rfl (lv_at hl 2 rfl) ?_
                  refine lv_imul hx hb dX12_assumes_99 ?_
                  refine lv_iload_n hx hb dX12_assumes_100 rfl (lv_at hl 3 rfl) ?_
                  refine lv_iadd hx hb dX12_assumes_101 ?_
                  have hin_25 := h.1
                  have h := h.2
                  refine va_zald hx hb hK hP 21 1 rfl rfl hin_25 dX12_assumes_102 ?_
                  refine lv_if_ne (tgt := 124) hx hb dX12_assumes_103 (by decide) (fun c_26 => ?_) (fun c_26 => ?_)
                  · have h := h.1 c_26
                    refine lv_iconst (v := 0) hx hb dX12_assumes_124 (by decide) ?_
                    have hin_27 := h.1
                    have h := h.2
                    refine va_zast hx hb hK hP hD hS 29 1 rfl rfl hin_27 dX12_assumes_125 (fun H locs hP hD hS => ?_)
                    obtain ⟨S27, eS27⟩ : ∃ z, z = ms S_2 30 (upd (S_2 30) (x2_2 : Int32).toNatClampNeg (vp_nar .boolean 0)) := ⟨_, rfl⟩
                    have hP : va_P D vwCl (mW cI cZ h0 q S27) H := by rw [eS27]; exact hP
                    have hD : va_D A (mW cI cZ h0 q S27) := by rw [eS27]; exact hD
                    have h := h S27 eS27
                    refine lv_iinc (v := x2_2 + 1) (lv' := [(2, .int (x2_2 + 1)), (3, .int 1), (0, .ref h0), (1, .int x2_1)]) hx hb dX12_assumes_126 hl (k := 3) rfl rfl (by decide) rfl (fun ls hl => ?_)
                    refine lv_goto (tgt := 2) hx hb dX12_assumes_129 (by decide) ?_
                    exact ih_2  S27 x2_1 (x2_2 + 1) H locs _ h hP hD hS (lv_sub hl [2, 3, 0] rfl)
                  · have h := h.2 c_26
                    refine lv_aload_n hx hb dX12_assumes_106 rfl (lv_at hl 1 rfl) ?_
                    refine va_get (D := D) (ci := 12) (v := .ref (q 21)) (C := RX12) (T := TX12) (N := 52) hx hb hts (fun _ h => List.mem_cons_of_mem _ (List.mem_append_right _ h)) hown hK hP 0 rfl rfl 21 (by decide) (hts (.fieldLink RX12 68 "TemplateForgeModel" "isLike" "[Z") (List.mem_of_getElem? (i := 12) rfl)) (fun _ h9 => h9) rfl dX12_assumes_107 ?_
                    refine lv_bipush (v := 11) hx hb dX12_assumes_110 (by decide) ?_
                    refine lv_iload_n hx hb dX12_assumes_112 rfl (lv_at hl 2 rfl) ?_
                    refine lv_imul hx hb dX12_assumes_113 ?_
                    refine lv_iload_n hx hb dX12_assumes_114 rfl (lv_at hl 3 rfl) ?_
                    refine lv_iadd hx hb dX12_assumes_115 ?_
                    have hin_28 := h.1
                    have h := h.2
                    refine va_zald hx hb hK hP 20 1 rfl rfl hin_28 dX12_assumes_116 ?_
                    refine lv_if_eq (tgt := 124) hx hb dX12_assumes_117 (by decide) (fun c_29 => ?_) (fun c_29 => ?_)
                    · have h := h.1 c_29
                      refine lv_iconst (v := 0) hx hb dX12_assumes_124 (by decide) ?_
                      have hin_30 := h.1
                      have h := h.2
                      refine va_zast hx hb hK hP hD hS 29 1 rfl rfl hin_30 dX12_assumes_125 (fun H locs hP hD hS => ?_)
                      obtain ⟨S30, eS30⟩ : ∃ z, z = ms S_2 30 (upd (S_2 30) (x2_2 : Int32).toNatClampNeg (vp_nar .boolean 0)) := ⟨_, rfl⟩
                      have hP : va_P D vwCl (mW cI cZ h0 q S30) H := by rw [eS30]; exact hP
                      have hD : va_D A (mW cI cZ h0 q S30) := by rw [eS30]; exact hD
                      have h := h S30 eS30
                      refine lv_iinc (v := x2_2 + 1) (lv' := [(2, .int (x2_2 + 1)), (3, .int 1), (0, .ref h0), (1, .int x2_1)]) hx hb dX12_assumes_126 hl (k := 3) rfl rfl (by decide) rfl (fun ls hl => ?_)
                      refine lv_goto (tgt := 2) hx hb dX12_assumes_129 (by decide) ?_
                      exact ih_2  S30 x2_1 (x2_2 + 1) H locs _ h hP hD hS (lv_sub hl [2, 3, 0] rfl)
                    · have h := h.2 c_29
                      refine lv_iconst (v := 1) hx hb dX12_assumes_120 (by decide) ?_
                      refine lv_goto (tgt := 125) hx hb dX12_assumes_121 (by decide) ?_
                      have hin_31 := h.1
                      have h := h.2
                      refine va_zast hx hb hK hP hD hS 29 1 rfl rfl hin_31 dX12_assumes_125 (fun H locs hP hD hS => ?_)
                      obtain ⟨S31, eS31⟩ : ∃ z, z = ms S_2 30 (upd (S_2 30) (x2_2 : Int32).toNatClampNeg (vp_nar .boolean 1)) := ⟨_, rfl⟩
                      have hP : va_P D vwCl (mW cI cZ h0 q S31) H := by rw [eS31]; exact hP
                      have hD : va_D A (mW cI cZ h0 q S31) := by rw [eS31]; exact hD
                      have h := h S31 eS31
                      refine lv_iinc (v := x2_2 + 1) (lv' := [(2, .int (x2_2 + 1)), (3, .int 1), (0, .ref h0), (1, .int x2_1)]) hx hb dX12_assumes_126 hl (k := 3) rfl rfl (by decide) rfl (fun ls hl => ?_)
                      refine lv_goto (tgt := 2) hx hb dX12_assumes_129 (by decide) ?_
                      exact ih_2  S31 x2_1 (x2_2 + 1) H locs _ h hP hD hS (lv_sub hl [2, 3, 0] rfl)
    obtain ⟨n_2, h⟩ := h
    exact LP_2 n_2 S a1 0 H locs _ h hP hD hS (lv_sub hl [1, 2, 0] rfl)
  exact key _ _ hP va_S.rf
def wl_X12_begins_23 (K_86 : MST → Prop) (Post : MST → Prop) : Nat → MST → Int32 → Int32 → Prop
  | 0, _, _, _ => False
  | n_23 + 1, S_23, x23_1, x23_2 => ((7 ≤ x23_2) → ((K_86 S_23 ))) ∧ ((¬ (7 ≤ x23_2)) → (((3 ≤ x23_2) → (vp_in x23_2 7 ∧ (∀ S3 : MST, S3 = ms S_23 33 (upd (S_23 33) (x23_2 : Int32).toNatClampNeg (vp_nar .boolean 0)) → (((3 ≤ x23_2) → (vp_in x23_2 7 ∧ (∀ S5 : MST, S5 = ms S3 34 (upd (S3 34) (x23_2 : Int32).toNatClampNeg 0) → (wl_X12_begins_23 K_86 Post n_23 S5 x23_1 (x23_2 + 1))))) ∧ ((¬ (3 ≤ x23_2)) → (vp_in ((11 * x23_1) + x23_2) 88 ∧ (vp_in x23_2 7 ∧ (∀ S7 : MST, S7 = ms S3 34 (upd (S3 34) (x23_2 : Int32).toNatClampNeg (S3 20 ((11 * x23_1) + x23_2 : Int32).toNatClampNeg)) → (wl_X12_begins_23 K_86 Post n_23 S7 x23_1 (x23_2 + 1)))))))))) ∧ ((¬ (3 ≤ x23_2)) → (vp_in x23_2 11 ∧ (((((S_23 30 (x23_2 : Int32).toNatClampNeg) : Int32) = 0) → (vp_in x23_2 7 ∧ (∀ S10 : MST, S10 = ms S_23 33 (upd (S_23 33) (x23_2 : Int32).toNatClampNeg (vp_nar .boolean 0)) → (((3 ≤ x23_2) → (vp_in x23_2 7 ∧ (∀ S12 : MST, S12 = ms S10 34 (upd (S10 34) (x23_2 : Int32).toNatClampNeg 0) → (wl_X12_begins_23 K_86 Post n_23 S12 x23_1 (x23_2 + 1))))) ∧ ((¬ (3 ≤ x23_2)) → (vp_in ((11 * x23_1) + x23_2) 88 ∧ (vp_in x23_2 7 ∧ (∀ S14 : MST, S14 = ms S10 34 (upd (S10 34) (x23_2 : Int32).toNatClampNeg (S10 20 ((11 * x23_1) + x23_2 : Int32).toNatClampNeg)) → (wl_X12_begins_23 K_86 Post n_23 S14 x23_1 (x23_2 + 1)))))))))) ∧ ((¬ (((S_23 30 (x23_2 : Int32).toNatClampNeg) : Int32) = 0)) → (vp_in x23_2 7 ∧ (∀ S15 : MST, S15 = ms S_23 33 (upd (S_23 33) (x23_2 : Int32).toNatClampNeg (vp_nar .boolean 1)) → (((3 ≤ x23_2) → (vp_in x23_2 7 ∧ (∀ S17 : MST, S17 = ms S15 34 (upd (S15 34) (x23_2 : Int32).toNatClampNeg 0) → (wl_X12_begins_23 K_86 Post n_23 S17 x23_1 (x23_2 + 1))))) ∧ ((¬ (3 ≤ x23_2)) → (vp_in ((11 * x23_1) + x23_2) 88 ∧ (vp_in x23_2 7 ∧ (∀ S19 : MST, S19 = ms S15 34 (upd (S15 34) (x23_2 : Int32).toNatClampNeg (S15 20 ((11 * x23_1) + x23_2 : Int32).toNatClampNeg)) → (wl_X12_begins_23 K_86 Post n_23 S19 x23_1 (x23_2 + 1)))))))))))))))
def wl_X12_begins_2 (K_21 : MST → Int32 → Prop) (Post : MST → Prop) : Nat → MST → Int32 → Int32 → Prop
  | 0, _, _, _ => False
  | n_2 + 1, S_2, x2_1, x2_2 => ((9 ≤ x2_2) → ((K_21 S_2 x2_1))) ∧ ((¬ (9 ≤ x2_2)) → (vp_in x2_2 9 ∧ (∀ S21 : MST, S21 = ms S_2 35 (upd (S_2 35) (x2_2 : Int32).toNatClampNeg (vp_nar .boolean 0)) → (wl_X12_begins_2 K_21 Post n_2 S21 x2_1 (x2_2 + 1)))))
def wp_X12_begins (S : MST) (a1 : Int32) (Post : MST → Prop) : Prop :=
  ∃ n_2, wl_X12_begins_2 (fun S_21 x21_1 => ∃ n_23, wl_X12_begins_23 (fun S_86 => Post S_86) Post n_23 S_21 x21_1 0) Post n_2 S a1 0
def zw_zd_X12_begins_w0 : List Cond := [.fieldLink RX12 99 "TemplateForgeModel" "localKnown" "[Z", .fieldLink RX12 102 "TemplateForgeModel" "localIs" "[I", .fieldLink RX12 65 "TemplateForgeModel" "value" "[I", .fieldLink RX12 96 "TemplateForgeModel" "assumed" "[Z", .fieldLink RX12 105 "TemplateForgeModel" "placeKnown" "[Z"]
def zw_zd_X12_begins : List Cond := .code yX12_begins cX12_begins 3 none :: ((zw_zd_X12_begins_w0) ++ wsX120)
set_option maxHeartbeats 16000000 in
set_option maxRecDepth 100000 in
theorem zd_X12_begins (l : Launch) (D : va_G) (cI cZ cP cF : Nat) (h0 : Nat) (q : Nat → Nat) (S : MST) (a1 : Int32) (sz : Nat) (Post : MST → Prop) (h : wp_X12_begins S a1 Post) : Met l yX12_begins zw_zd_X12_begins ({ frames := 0, cells := 0, slots := 0, locals := 0 }) (va_Pc [.ref h0, .int a1] (fun U => U.heap.size = sz ∧ va_P D vwCl (mW cI cZ h0 q S) U.heap ∧ zE D cI cZ cP cF U ∧ va_D (fun _ => True) (mW cI cZ h0 q S))) (va_Qv (fun S' => Post S') (fun (S' : MST) t => va_P D vwCl (mW cI cZ h0 q S') t.heap ∧ va_D (va_A (mW cI cZ h0 q S) sz) (mW cI cZ h0 q S')) (va_A (mW cI cZ h0 q S) sz)) 0 0 (va_A (mW cI cZ h0 q S) sz) := by
  unfold wp_X12_begins at h
  refine Met.ofW (cc := cX12_begins) (maxL := 3) (ret := none) (by decide) rfl ?_
  intro p e s m args below meth c s₁ B hml hv
  obtain ⟨rfl, hsz, hP, hE, hD0⟩ := hv
  have hx := B.exec
  have hb := B.bytes
  have hr := B.returns
  have hts := atoms_spec (ws := zw_zd_X12_begins) B.pre
  have hown : s.vm.findClass RX12 = some m.cls := findClass_of_methodNamed B.named
  have hlocks := B.notSynchronized
  have hK := hE.k
  subst hsz
  have hD := hD0.self (sz := s.heap.size)
  generalize hAe : va_A (mW cI cZ h0 q S) s.heap.size = A at hD ⊢
  have hA : ∀ q : Nat, s.heap.size ≤ q → A q := fun q h => by rw [← hAe]; exact Or.inr h
  have hl := lv_entry ([.ref h0, .int a1]) (n := 3) (Nat.le_of_ble_eq_true rfl)
  rw [lg_entry_eq]
  generalize (lg_sl ([.ref h0, .int a1]) ++ List.replicate (3 - (lg_sl ([.ref h0, .int a1])).length) Slot.unset).toArray = ls at hl ⊢
  have hl : lv_has ls 3 [(0, .ref h0), (1, .int a1)] := hl
  have key : ∀ (H : Heap) (locs : List Loc), va_P D vwCl (mW cI cZ h0 q S) H → va_S A s.heap H locs → W p l e (headSpec zw_zd_X12_begins ({ frames := 0, cells := 0, slots := 0, locals := 0 })).room s m ([.ref h0, .int a1] : List Value).toArray below meth c H locs 0 0 (MQ below (va_Qv (fun S' => Post S') (fun (S' : MST) t => va_P D vwCl (mW cI cZ h0 q S') t.heap ∧ va_D A (mW cI cZ h0 q S')) A) ([.ref h0, .int a1] : List Value).toArray s 0 0 A) (F0 m 0 ls []) := by
    intro H locs hP hS
    refine lv_iconst (v := 0) hx hb dX12_begins_0 (by decide) ?_
    refine lv_istore_n (lv' := [(2, .int 0), (0, .ref h0), (1, .int a1)]) hx hb dX12_begins_1 rfl hl (by decide) rfl (fun ls hl => ?_)
    have EX_2_21 : ∀ (S_21 : MST) (x21_1 : Int32) (H : Heap) (locs : List Loc) (ls : Array Slot), (∃ n_23, wl_X12_begins_23 (fun S_86 => Post S_86) Post n_23 S_21 x21_1 0) → va_P D vwCl (mW cI cZ h0 q S_21) H → va_D A (mW cI cZ h0 q S_21) → va_S A s.heap H locs → lv_has ls 3 [(0, .ref h0), (1, .int x21_1)] → W p l e (headSpec zw_zd_X12_begins ({ frames := 0, cells := 0, slots := 0, locals := 0 })).room s m ([.ref h0, .int a1] : List Value).toArray below meth c H locs 0 0 (MQ below (va_Qv (fun S' => Post S') (fun (S' : MST) t => va_P D vwCl (mW cI cZ h0 q S') t.heap ∧ va_D A (mW cI cZ h0 q S')) A) ([.ref h0, .int a1] : List Value).toArray s 0 0 A) (F0 m 21 ls []) := by
      intro S_21 x21_1 H locs ls h hP hD hS hl
      refine lv_iconst (v := 0) hx hb dX12_begins_21 (by decide) ?_
      refine lv_istore_n (lv' := [(2, .int 0), (0, .ref h0), (1, .int x21_1)]) hx hb dX12_begins_22 rfl hl (by decide) rfl (fun ls hl => ?_)
      have EX_23_86 : ∀ (S_86 : MST) (H : Heap) (locs : List Loc) (ls : Array Slot), (Post S_86) → va_P D vwCl (mW cI cZ h0 q S_86) H → va_D A (mW cI cZ h0 q S_86) → va_S A s.heap H locs → lv_has ls 3 [] → W p l e (headSpec zw_zd_X12_begins ({ frames := 0, cells := 0, slots := 0, locals := 0 })).room s m ([.ref h0, .int a1] : List Value).toArray below meth c H locs 0 0 (MQ below (va_Qv (fun S' => Post S') (fun (S' : MST) t => va_P D vwCl (mW cI cZ h0 q S') t.heap ∧ va_D A (mW cI cZ h0 q S')) A) ([.ref h0, .int a1] : List Value).toArray s 0 0 A) (F0 m 86 ls []) := by
        intro S_86  H locs ls h hP hD hS hl
        exact W.vret hx hb hr (fun t ht hW => ⟨⟨S_86, rfl, h, by rw [ht]; exact hP, hD⟩, hS.F ht⟩) hS.2.2 dX12_begins_86
      have LP_23 : ∀ (n_23 : Nat), ∀ (S_23 : MST) (x23_1 : Int32) (x23_2 : Int32) (H : Heap) (locs : List Loc) (ls : Array Slot), wl_X12_begins_23 (fun S_86 => Post S_86) Post n_23 S_23 x23_1 x23_2 → va_P D vwCl (mW cI cZ h0 q S_23) H → va_D A (mW cI cZ h0 q S_23) → va_S A s.heap H locs → lv_has ls 3 [(0, .ref h0), (1, .int x23_1), (2, .int x23_2)] → W p l e (headSpec zw_zd_X12_begins ({ frames := 0, cells := 0, slots := 0, locals := 0 })).room s m ([.ref h0, .int a1] : List Value).toArray below meth c H locs 0 0 (MQ below (va_Qv (fun S' => Post S') (fun (S' : MST) t => va_P D vwCl (mW cI cZ h0 q S') t.heap ∧ va_D A (mW cI cZ h0 q S')) A) ([.ref h0, .int a1] : List Value).toArray s 0 0 A) (F0 m 23 ls []) := by
        intro n_23
        induction n_23 with
        | zero =>
          intro S_23 x23_1 x23_2 H locs ls h hP hD hS hl
          exact False.elim h
        | succ n_23 ih_23 =>
          intro S_23 x23_1 x23_2 H locs ls h hP hD hS hl
          unfold wl_X12_begins_23 at h
          refine lv_iload_n hx hb dX12_begins_23 rfl (lv_at hl 2 rfl) ?_
          refine lv_bipush (v := 7) hx hb dX12_begins_24 (by decide) ?_
          refine lv_icmp_ge (tgt := 86) hx hb dX12_begins_26 (by decide) (fun c_1 => ?_) (fun c_1 => ?_)
          · have h := h.1 c_1
            exact EX_23_86  S_23  H locs _ h hP hD hS (lv_sub hl [] rfl)
          · have h := h.2 c_1
            refine lv_aload_n hx hb dX12_begins_29 rfl (lv_at hl 0 rfl) ?_
            refine va_get (D := D) (ci := 12) (v := .ref (q 33)) (C := RX12) (T := TX12) (N := 52) hx hb hts (fun _ h => List.mem_cons_of_mem _ (List.mem_append_right _ h)) hown hK hP 0 rfl rfl 33 (by decide) (hts (.fieldLink RX12 99 "TemplateForgeModel" "localKnown" "[Z") (List.mem_of_getElem? (i := 1) rfl)) (fun _ h9 => h9) rfl dX12_begins_30 ?_
            refine lv_iload_n hx hb dX12_begins_33 rfl (lv_at hl 2 rfl) ?_
            refine lv_iload_n hx hb dX12_begins_34 rfl (lv_at hl 2 rfl) ?_
            refine lv_iconst (v := 3) hx hb dX12_begins_35 (by decide) ?_
            refine lv_icmp_ge (tgt := 52) hx hb dX12_begins_36 (by decide) (fun c_2 => ?_) (fun c_2 => ?_)
            · have h := h.1 c_2
              refine lv_iconst (v := 0) hx hb dX12_begins_52 (by decide) ?_
              have hin_3 := h.1
              have h := h.2
              refine va_zast hx hb hK hP hD hS 30 1 rfl rfl hin_3 dX12_begins_53 (fun H locs hP hD hS => ?_)
              obtain ⟨S3, eS3⟩ : ∃ z, z = ms S_23 33 (upd (S_23 33) (x23_2 : Int32).toNatClampNeg (vp_nar .boolean 0)) := ⟨_, rfl⟩
              have hP : va_P D vwCl (mW cI cZ h0 q S3) H := by rw [eS3]; exact hP
              have hD : va_D A (mW cI cZ h0 q S3) := by rw [eS3]; exact hD
              have h := h S3 eS3
              refine lv_aload_n hx hb dX12_begins_54 rfl (lv_at hl 0 rfl) ?_
              refine va_get (D := D) (ci := 12) (v := .ref (q 34)) (C := RX12) (T := TX12) (N := 52) hx hb hts (fun _ h => List.mem_cons_of_mem _ (List.mem_append_right _ h)) hown hK hP 0 rfl rfl 34 (by decide) (hts (.fieldLink RX12 102 "TemplateForgeModel" "localIs" "[I") (List.mem_of_getElem? (i := 2) rfl)) (fun _ h9 => h9) rfl dX12_begins_55 ?_
              refine lv_iload_n hx hb dX12_begins_58 rfl (lv_at hl 2 rfl) ?_
              refine lv_iload_n hx hb dX12_begins_59 rfl (lv_at hl 2 rfl) ?_
              refine lv_iconst (v := 3) hx hb dX12_begins_60 (by decide) ?_
              refine lv_icmp_ge (tgt := 78) hx hb dX12_begins_61 (by decide) (fun c_4 => ?_) (fun c_4 => ?_)
              · have h := h.1 c_4
                refine lv_iconst (v := 0) hx hb dX12_begins_78 (by decide) ?_
                have hin_5 := h.1
                have h := h.2
                refine va_iast hx hb hK hP hD hS 31 0 rfl rfl hin_5 dX12_begins_79 (fun H locs hP hD hS => ?_)
                obtain ⟨S5, eS5⟩ : ∃ z, z = ms S3 34 (upd (S3 34) (x23_2 : Int32).toNatClampNeg 0) := ⟨_, rfl⟩
                have hP : va_P D vwCl (mW cI cZ h0 q S5) H := by rw [eS5]; exact hP
                have hD : va_D A (mW cI cZ h0 q S5) := by rw [eS5]; exact hD
                have h := h S5 eS5
                refine lv_iinc (v := x23_2 + 1) (lv' := [(2, .int (x23_2 + 1)), (0, .ref h0), (1, .int x23_1)]) hx hb dX12_begins_80 hl (k := 2) rfl rfl (by decide) rfl (fun ls hl => ?_)
                refine lv_goto (tgt := 23) hx hb dX12_begins_83 (by decide) ?_
                exact ih_23  S5 x23_1 (x23_2 + 1) H locs _ h hP hD hS (lv_sub hl [1, 2, 0] rfl)
              · have h := h.2 c_4
                refine lv_aload_n hx hb dX12_begins_64 rfl (lv_at hl 0 rfl) ?_
                refine va_get (D := D) (ci := 12) (v := .ref (q 20)) (C := RX12) (T := TX12) (N := 52) hx hb hts (fun _ h => List.mem_cons_of_mem _ (List.mem_append_right _ h)) hown hK hP 0 rfl rfl 20 (by decide) (hts (.fieldLink RX12 65 "TemplateForgeModel" "value" "[I") (List.mem_of_getElem? (i := 3) rfl)) (fun _ h9 => h9) rfl dX12_begins_65 ?_
                refine lv_bipush (v := 11) hx hb dX12_begins_68 (by decide) ?_
                refine lv_iload_n hx hb dX12_begins_70 rfl (lv_at hl 1 rfl) ?_
                refine lv_imul hx hb dX12_begins_71 ?_
                refine lv_iload_n hx hb dX12_begins_72 rfl (lv_at hl 2 rfl) ?_
                refine lv_iadd hx hb dX12_begins_73 ?_
                have hin_6 := h.1
                have h := h.2
                refine va_iald hx hb hK hP 19 0 rfl rfl hin_6 dX12_begins_74 ?_
                refine lv_goto (tgt := 79) hx hb dX12_begins_75 (by decide) ?_
                have hin_7 := h.1
                have h := h.2
                refine va_iast hx hb hK hP hD hS 31 0 rfl rfl hin_7 dX12_begins_79 (fun H locs hP hD hS => ?_)
                obtain ⟨S7, eS7⟩ : ∃ z, z = ms S3 34 (upd (S3 34) (x23_2 : Int32).toNatClampNeg (S3 20 ((11 * x23_1) + x23_2 : Int32).toNatClampNeg)) := ⟨_, rfl⟩
                have hP : va_P D vwCl (mW cI cZ h0 q S7) H := by rw [eS7]; exact hP
                have hD : va_D A (mW cI cZ h0 q S7) := by rw [eS7]; exact hD
                have h := h S7 eS7
                refine lv_iinc (v := x23_2 + 1) (lv' := [(2, .int (x23_2 + 1)), (0, .ref h0), (1, .int x23_1)]) hx hb dX12_begins_80 hl (k := 2) rfl rfl (by decide) rfl (fun ls hl => ?_)
                refine lv_goto (tgt := 23) hx hb dX12_begins_83 (by decide) ?_
                exact ih_23  S7 x23_1 (x23_2 + 1) H locs _ h hP hD hS (lv_sub hl [1, 2, 0] rfl)
            · have h := h.2 c_2
              refine lv_aload_n hx hb dX12_begins_39 rfl (lv_at hl 0 rfl) ?_
              refine va_get (D := D) (ci := 12) (v := .ref (q 30)) (C := RX12) (T := TX12) (N := 52) hx hb hts (fun _ h => List.mem_cons_of_mem _ (List.mem_append_right _ h)) hown hK hP 0 rfl rfl 30 (by decide) (hts (.fieldLink RX12 96 "TemplateForgeModel" "assumed" "[Z") (List.mem_of_getElem? (i := 4) rfl)) (fun _ h9 => h9) rfl dX12_begins_40 ?_
              refine lv_iload_n hx hb dX12_begins_43 rfl (lv_at hl 2 rfl) ?_
              have hin_8 := h.1
              have h := h.2
              refine va_zald hx hb hK hP 29 1 rfl rfl hin_8 dX12_begins_44 ?_
              refine lv_if_eq (tgt := 52) hx hb dX12_begins_45 (by decide) (fun c_9 => ?_) (fun c_9 => ?_)
              · have h := h.1 c_9
                refine lv_iconst (v := 0) hx hb dX12_begins_52 (by decide) ?_
                have hin_10 := h.1
                have h := h.2
                refine va_zast hx hb hK hP hD hS 30 1 rfl rfl hin_10 dX12_begins_53 (fun H locs hP hD hS => ?_)
                obtain ⟨S10, eS10⟩ : ∃ z, z = ms S_23 33 (upd (S_23 33) (x23_2 : Int32).toNatClampNeg (vp_nar .boolean 0)) := ⟨_, rfl⟩
                have hP : va_P D vwCl (mW cI cZ h0 q S10) H := by rw [eS10]; exact hP
                have hD : va_D A (mW cI cZ h0 q S10) := by rw [eS10]; exact hD
                have h := h S10 eS10
                refine lv_aload_n hx hb dX12_begins_54 rfl (lv_at hl 0 rfl) ?_
                refine va_get (D := D) (ci := 12) (v := .ref (q 34)) (C := RX12) (T := TX12) (N := 52) hx hb hts (fun _ h => List.mem_cons_of_mem _ (List.mem_append_right _ h)) hown hK hP 0 rfl rfl 34 (by decide) (hts (.fieldLink RX12 102 "TemplateForgeModel" "localIs" "[I") (List.mem_of_getElem? (i := 2) rfl)) (fun _ h9 => h9) rfl dX12_begins_55 ?_
                refine lv_iload_n hx hb dX12_begins_58 rfl (lv_at hl 2 rfl) ?_
                refine lv_iload_n hx hb dX12_begins_59 rfl (lv_at hl 2 rfl) ?_
                refine lv_iconst (v := 3) hx hb dX12_begins_60 (by decide) ?_
                refine lv_icmp_ge (tgt := 78) hx hb dX12_begins_61 (by decide) (fun c_11 => ?_) (fun c_11 => ?_)
                · have h := h.1 c_11
                  refine lv_iconst (v := 0) hx hb dX12_begins_78 (by decide) ?_
                  have hin_12 := h.1
                  have h := h.2
                  refine va_iast hx hb hK hP hD hS 31 0 rfl rfl hin_12 dX12_begins_79 (fun H locs hP hD hS => ?_)
                  obtain ⟨S12, eS12⟩ : ∃ z, z = ms S10 34 (upd (S10 34) (x23_2 : Int32).toNatClampNeg 0) := ⟨_, rfl⟩
                  have hP : va_P D vwCl (mW cI cZ h0 q S12) H := by rw [eS12]; exact hP
                  have hD : va_D A (mW cI cZ h0 q S12) := by rw [eS12]; exact hD
                  have h := h S12 eS12
                  refine lv_iinc (v := x23_2 + 1) (lv' := [(2, .int (x23_2 + 1)), (0, .ref h0), (1, .int x23_1)]) hx hb dX12_begins_80 hl (k := 2) rfl rfl (by decide) rfl (fun ls hl => ?_)
                  refine lv_goto (tgt := 23) hx hb dX12_begins_83 (by decide) ?_
                  exact ih_23  S12 x23_1 (x23_2 + 1) H locs _ h hP hD hS (lv_sub hl [1, 2, 0] rfl)
                · have h := h.2 c_11
                  refine lv_aload_n hx hb dX12_begins_64 rfl (lv_at hl 0 rfl) ?_
                  refine va_get (D := D) (ci := 12) (v := .ref (q 20)) (C := RX12) (T := TX12) (N := 52) hx hb hts (fun _ h => List.mem_cons_of_mem _ (List.mem_append_right _ h)) hown hK hP 0 rfl rfl 20 (by decide) (hts (.fieldLink RX12 65 "TemplateForgeModel" "value" "[I") (List.mem_of_getElem? (i := 3) rfl)) (fun _ h9 => h9) rfl dX12_begins_65 ?_
                  refine lv_bipush (v := 11) hx hb dX12_begins_68 (by decide) ?_
                  refine lv_iload_n hx hb dX12_begins_70 rfl (lv_at hl 1 rfl) ?_
                  refine lv_imul hx hb dX12_begins_71 ?_
                  refine lv_iload_n hx hb dX12_begins_72 rfl (lv_at hl 2 rfl) ?_
                  refine lv_iadd hx hb dX12_begins_73 ?_
                  have hin_13 := h.1
                  have h := h.2
                  refine va_iald hx hb hK hP 19 0 rfl rfl hin_13 dX12_begins_74 ?_
                  refine lv_goto (tgt := 79) hx hb dX12_begins_75 (by decide) ?_
                  have hin_14 := h.1
                  have h := h.2
                  refine va_iast hx hb hK hP hD hS 31 0 rfl rfl hin_14 dX12_begins_79 (fun H locs hP hD hS => ?_)
                  obtain ⟨S14, eS14⟩ : ∃ z, z = ms S10 34 (upd (S10 34) (x23_2 : Int32).toNatClampNeg (S10 20 ((11 * x23_1) + x23_2 : Int32).toNatClampNeg)) := ⟨_, rfl⟩
                  have hP : va_P D vwCl (mW cI cZ h0 q S14) H := by rw [eS14]; exact hP
                  have hD : va_D A (mW cI cZ h0 q S14) := by rw [eS14]; exact hD
                  have h := h S14 eS14
                  refine lv_iinc (v := x23_2 + 1) (lv' := [(2, .int (x23_2 + 1)), (0, .ref h0), (1, .int x23_1)]) hx hb dX12_begins_80 hl (k := 2) rfl rfl (by decide) rfl (fun ls hl => ?_)
                  refine lv_goto (tgt := 23) hx hb dX12_begins_83 (by decide) ?_
                  exact ih_23  S14 x23_1 (x23_2 + 1) H locs _ h hP hD hS (lv_sub hl [1, 2, 0] rfl)
              · have h := h.2 c_9
                refine lv_iconst (v := 1) hx hb dX12_begins_48 (by decide) ?_
                refine lv_goto (tgt := 53) hx hb dX12_begins_49 (by decide) ?_
                have hin_15 := h.1
                have h := h.2
                refine va_zast hx hb hK hP hD hS 30 1 rfl rfl hin_15 dX12_begins_53 (fun H locs hP hD hS => ?_)
                obtain ⟨S15, eS15⟩ : ∃ z, z = ms S_23 33 (upd (S_23 33) (x23_2 : Int32).toNatClampNeg (vp_nar .boolean 1)) := ⟨_, rfl⟩
                have hP : va_P D vwCl (mW cI cZ h0 q S15) H := by rw [eS15]; exact hP
                have hD : va_D A (mW cI cZ h0 q S15) := by rw [eS15]; exact hD
                have h := h S15 eS15
                refine lv_aload_n hx hb dX12_begins_54 rfl (lv_at hl 0 rfl) ?_
                refine va_get (D := D) (ci := 12) (v := .ref (q 34)) (C := RX12) (T := TX12) (N := 52) hx hb hts (fun _ h => List.mem_cons_of_mem _ (List.mem_append_right _ h)) hown hK hP 0 rfl rfl 34 (by decide) (hts (.fieldLink RX12 102 "TemplateForgeModel" "localIs" "[I") (List.mem_of_getElem? (i := 2) rfl)) (fun _ h9 => h9) rfl dX12_begins_55 ?_
                refine lv_iload_n hx hb dX12_begins_58 rfl (lv_at hl 2 rfl) ?_
                refine lv_iload_n hx hb dX12_begins_59 rfl (lv_at hl 2 rfl) ?_
                refine lv_iconst (v := 3) hx hb dX12_begins_60 (by decide) ?_
                refine lv_icmp_ge (tgt := 78) hx hb dX12_begins_61 (by decide) (fun c_16 => ?_) (fun c_16 => ?_)
                · have h := h.1 c_16
                  refine lv_iconst (v := 0) hx hb dX12_begins_78 (by decide) ?_
                  have hin_17 := h.1
                  have h := h.2
                  refine va_iast hx hb hK hP hD hS 31 0 rfl rfl hin_17 dX12_begins_79 (fun H locs hP hD hS => ?_)
                  obtain ⟨S17, eS17⟩ : ∃ z, z = ms S15 34 (upd (S15 34) (x23_2 : Int32).toNatClampNeg 0) := ⟨_, rfl⟩
                  have hP : va_P D vwCl (mW cI cZ h0 q S17) H := by rw [eS17]; exact hP
                  have hD : va_D A (mW cI cZ h0 q S17) := by rw [eS17]; exact hD
                  have h := h S17 eS17
                  refine lv_iinc (v := x23_2 + 1) (lv' := [(2, .int (x23_2 + 1)), (0, .ref h0), (1, .int x23_1)]) hx hb dX12_begins_80 hl (k := 2) rfl rfl (by decide) rfl (fun ls hl => ?_)
                  refine lv_goto (tgt := 23) hx hb dX12_begins_83 (by decide) ?_
                  exact ih_23  S17 x23_1 (x23_2 + 1) H locs _ h hP hD hS (lv_sub hl [1, 2, 0] rfl)
                · have h := h.2 c_16
                  refine lv_aload_n hx hb dX12_begins_64 rfl (lv_at hl 0 rfl) ?_
                  refine va_get (D := D) (ci := 12) (v := .ref (q 20)) (C := RX12) (T := TX12) (N := 52) hx hb hts (fun _ h => List.mem_cons_of_mem _ (List.mem_append_right _ h)) hown hK hP 0 rfl rfl 20 (by decide) (hts (.fieldLink RX12 65 "TemplateForgeModel" "value" "[I") (List.mem_of_getElem? (i := 3) rfl)) (fun _ h9 => h9) rfl dX12_begins_65 ?_
                  refine lv_bipush (v := 11) hx hb dX12_begins_68 (by decide) ?_
                  refine lv_iload_n hx hb dX12_begins_70 rfl (lv_at hl 1 rfl) ?_
                  refine lv_imul hx hb dX12_begins_71 ?_
                  refine lv_iload_n hx hb dX12_begins_72 rfl (lv_at hl 2 rfl) ?_
                  refine lv_iadd hx hb dX12_begins_73 ?_
                  have hin_18 := h.1
                  have h := h.2
                  refine va_iald hx hb hK hP 19 0 rfl rfl hin_18 dX12_begins_74 ?_
                  refine lv_goto (tgt := 79) hx hb dX12_begins_75 (by decide) ?_
                  have hin_19 := h.1
                  have h := h.2
                  refine va_iast hx hb hK hP hD hS 31 0 rfl rfl hin_19 dX12_begins_79 (fun H locs hP hD hS => ?_)
                  obtain ⟨S19, eS19⟩ : ∃ z, z = ms S15 34 (upd (S15 34) (x23_2 : Int32).toNatClampNeg (S15 20 ((11 * x23_1) + x23_2 : Int32).toNatClampNeg)) := ⟨_, rfl⟩
                  have hP : va_P D vwCl (mW cI cZ h0 q S19) H := by rw [eS19]; exact hP
                  have hD : va_D A (mW cI cZ h0 q S19) := by rw [eS19]; exact hD
                  have h := h S19 eS19
                  refine lv_iinc (v := x23_2 + 1) (lv' := [(2, .int (x23_2 + 1)), (0, .ref h0), (1, .int x23_1)]) hx hb dX12_begins_80 hl (k := 2) rfl rfl (by decide) rfl (fun ls hl => ?_)
                  refine lv_goto (tgt := 23) hx hb dX12_begins_83 (by decide) ?_
                  exact ih_23  S19 x23_1 (x23_2 + 1) H locs _ h hP hD hS (lv_sub hl [1, 2, 0] rfl)
      obtain ⟨n_23, h⟩ := h
      exact LP_23 n_23 S_21 x21_1 0 H locs _ h hP hD hS (lv_sub hl [1, 2, 0] rfl)
    have LP_2 : ∀ (n_2 : Nat), ∀ (S_2 : MST) (x2_1 : Int32) (x2_2 : Int32) (H : Heap) (locs : List Loc) (ls : Array Slot), wl_X12_begins_2 (fun S_21 x21_1 => ∃ n_23, wl_X12_begins_23 (fun S_86 => Post S_86) Post n_23 S_21 x21_1 0) Post n_2 S_2 x2_1 x2_2 → va_P D vwCl (mW cI cZ h0 q S_2) H → va_D A (mW cI cZ h0 q S_2) → va_S A s.heap H locs → lv_has ls 3 [(0, .ref h0), (1, .int x2_1), (2, .int x2_2)] → W p l e (headSpec zw_zd_X12_begins ({ frames := 0, cells := 0, slots := 0, locals := 0 })).room s m ([.ref h0, .int a1] : List Value).toArray below meth c H locs 0 0 (MQ below (va_Qv (fun S' => Post S') (fun (S' : MST) t => va_P D vwCl (mW cI cZ h0 q S') t.heap ∧ va_D A (mW cI cZ h0 q S')) A) ([.ref h0, .int a1] : List Value).toArray s 0 0 A) (F0 m 2 ls []) := by
      intro n_2
      induction n_2 with
      | zero =>
        intro S_2 x2_1 x2_2 H locs ls h hP hD hS hl
        exact False.elim h
      | succ n_2 ih_2 =>
        intro S_2 x2_1 x2_2 H locs ls h hP hD hS hl
        unfold wl_X12_begins_2 at h
        refine lv_iload_n hx hb dX12_begins_2 rfl (lv_at hl 2 rfl) ?_
        refine lv_bipush (v := 9) hx hb dX12_begins_3 (by decide) ?_
        refine lv_icmp_ge (tgt := 21) hx hb dX12_begins_5 (by decide) (fun c_20 => ?_) (fun c_20 => ?_)
        · have h := h.1 c_20
          exact EX_2_21  S_2 x2_1 H locs _ h hP hD hS (lv_sub hl [0, 1] rfl)
        · have h := h.2 c_20
          refine lv_aload_n hx hb dX12_begins_8 rfl (lv_at hl 0 rfl) ?_
          refine va_get (D := D) (ci := 12) (v := .ref (q 35)) (C := RX12) (T := TX12) (N := 52) hx hb hts (fun _ h => List.mem_cons_of_mem _ (List.mem_append_right _ h)) hown hK hP 0 rfl rfl 35 (by decide) (hts (.fieldLink RX12 105 "TemplateForgeModel" "placeKnown" "[Z") (List.mem_of_getElem? (i := 5) rfl)) (fun _ h9 => h9) rfl dX12_begins_9 ?_
          refine lv_iload_n hx hb dX12_begins_12 rfl (lv_at hl 2 rfl) ?_
          refine lv_iconst (v := 0) hx hb dX12_begins_13 (by decide) ?_
          have hin_21 := h.1
          have h := h.2
          refine va_zast hx hb hK hP hD hS 32 1 rfl rfl hin_21 dX12_begins_14 (fun H locs hP hD hS => ?_)
          obtain ⟨S21, eS21⟩ : ∃ z, z = ms S_2 35 (upd (S_2 35) (x2_2 : Int32).toNatClampNeg (vp_nar .boolean 0)) := ⟨_, rfl⟩
          have hP : va_P D vwCl (mW cI cZ h0 q S21) H := by rw [eS21]; exact hP
          have hD : va_D A (mW cI cZ h0 q S21) := by rw [eS21]; exact hD
          have h := h S21 eS21
          refine lv_iinc (v := x2_2 + 1) (lv' := [(2, .int (x2_2 + 1)), (0, .ref h0), (1, .int x2_1)]) hx hb dX12_begins_15 hl (k := 2) rfl rfl (by decide) rfl (fun ls hl => ?_)
          refine lv_goto (tgt := 2) hx hb dX12_begins_18 (by decide) ?_
          exact ih_2  S21 x2_1 (x2_2 + 1) H locs _ h hP hD hS (lv_sub hl [1, 2, 0] rfl)
    obtain ⟨n_2, h⟩ := h
    exact LP_2 n_2 S a1 0 H locs _ h hP hD hS (lv_sub hl [1, 2, 0] rfl)
  exact key _ _ hP va_S.rf
def wp_X12_traps (S : MST) (a1 : Int32) (a2 : Int32) (Post : MST → Prop) : Prop :=
  ∀ S1 : MST, S1 = ms S 43 (fun _ => 1) → (vp_in 0 4 ∧ (∀ S2 : MST, S2 = ms S1 50 (upd (S1 50) (0 : Int32).toNatClampNeg a1) → (vp_in ((S2 37 0) - 1) 16 ∧ (vp_in 1 4 ∧ (∀ S4 : MST, S4 = ms S2 50 (upd (S2 50) (1 : Int32).toNatClampNeg (S2 38 ((S2 37 0) - 1 : Int32).toNatClampNeg)) → (vp_in 2 4 ∧ (∀ S5 : MST, S5 = ms S4 50 (upd (S4 50) (2 : Int32).toNatClampNeg a2) → (vp_in 3 4 ∧ (∀ S6 : MST, S6 = ms S5 50 (upd (S5 50) (3 : Int32).toNatClampNeg (S5 37 0)) → (Post S6))))))))))
def zw_zd_X12_traps_w0 : List Cond := [.fieldLink RX12 233 "TemplateForgeModel" "outcome" "I", .fieldLink RX12 126 "TemplateForgeModel" "trap" "[I", .fieldLink RX12 111 "TemplateForgeModel" "frameMethod" "[I", .fieldLink RX12 236 "TemplateForgeModel" "open" "I"]
def zw_zd_X12_traps : List Cond := .code yX12_traps cX12_traps 3 none :: ((zw_zd_X12_traps_w0) ++ wsX120)
set_option maxHeartbeats 16000000 in
set_option maxRecDepth 100000 in
theorem zd_X12_traps (l : Launch) (D : va_G) (cI cZ cP cF : Nat) (h0 : Nat) (q : Nat → Nat) (S : MST) (a1 : Int32) (a2 : Int32) (sz : Nat) (Post : MST → Prop) (h : wp_X12_traps S a1 a2 Post) : Met l yX12_traps zw_zd_X12_traps ({ frames := 0, cells := 0, slots := 0, locals := 0 }) (va_Pc [.ref h0, .int a1, .int a2] (fun U => U.heap.size = sz ∧ va_P D vwCl (mW cI cZ h0 q S) U.heap ∧ zE D cI cZ cP cF U ∧ va_D (fun _ => True) (mW cI cZ h0 q S))) (va_Qv (fun S' => Post S') (fun (S' : MST) t => va_P D vwCl (mW cI cZ h0 q S') t.heap ∧ va_D (va_A (mW cI cZ h0 q S) sz) (mW cI cZ h0 q S')) (va_A (mW cI cZ h0 q S) sz)) 0 0 (va_A (mW cI cZ h0 q S) sz) := by
  unfold wp_X12_traps at h
  refine Met.ofW (cc := cX12_traps) (maxL := 3) (ret := none) (by decide) rfl ?_
  intro p e s m args below meth c s₁ B hml hv
  obtain ⟨rfl, hsz, hP, hE, hD0⟩ := hv
  have hx := B.exec
  have hb := B.bytes
  have hr := B.returns
  have hts := atoms_spec (ws := zw_zd_X12_traps) B.pre
  have hown : s.vm.findClass RX12 = some m.cls := findClass_of_methodNamed B.named
  have hlocks := B.notSynchronized
  have hK := hE.k
  subst hsz
  have hD := hD0.self (sz := s.heap.size)
  generalize hAe : va_A (mW cI cZ h0 q S) s.heap.size = A at hD ⊢
  have hA : ∀ q : Nat, s.heap.size ≤ q → A q := fun q h => by rw [← hAe]; exact Or.inr h
  have hl := lv_entry ([.ref h0, .int a1, .int a2]) (n := 3) (Nat.le_of_ble_eq_true rfl)
  rw [lg_entry_eq]
  generalize (lg_sl ([.ref h0, .int a1, .int a2]) ++ List.replicate (3 - (lg_sl ([.ref h0, .int a1, .int a2])).length) Slot.unset).toArray = ls at hl ⊢
  have hl : lv_has ls 3 [(0, .ref h0), (1, .int a1), (2, .int a2)] := hl
  have key : ∀ (H : Heap) (locs : List Loc), va_P D vwCl (mW cI cZ h0 q S) H → va_S A s.heap H locs → W p l e (headSpec zw_zd_X12_traps ({ frames := 0, cells := 0, slots := 0, locals := 0 })).room s m ([.ref h0, .int a1, .int a2] : List Value).toArray below meth c H locs 0 0 (MQ below (va_Qv (fun S' => Post S') (fun (S' : MST) t => va_P D vwCl (mW cI cZ h0 q S') t.heap ∧ va_D A (mW cI cZ h0 q S')) A) ([.ref h0, .int a1, .int a2] : List Value).toArray s 0 0 A) (F0 m 0 ls []) := by
    intro H locs hP hS
    refine lv_aload_n hx hb dX12_traps_0 rfl (lv_at hl 0 rfl) ?_
    refine lv_iconst (v := 1) hx hb dX12_traps_1 (by decide) ?_
    refine va_put (D := D) (ci := 12) (v := .int 1) (ty := .int) (C := RX12) (T := TX12) (N := 52) hx hb hts (fun _ h => List.mem_cons_of_mem _ (List.mem_append_right _ h)) tyX12 tyX12_ok nmX12 hown hK hP hD hS 0 rfl rfl 43 (by decide) (hts (.fieldLink RX12 233 "TemplateForgeModel" "outcome" "I") (List.mem_of_getElem? (i := 1) rfl)) (fun _ h9 => h9) rfl (by decide +kernel) rfl rfl (Nat.le_of_ble_eq_true rfl) dX12_traps_2 (fun H locs hP hD hS => ?_)
    obtain ⟨S1, eS1⟩ : ∃ z, z = ms S 43 (fun _ => 1) := ⟨_, rfl⟩
    have hP : va_P D vwCl (mW cI cZ h0 q S1) H := by rw [eS1]; exact hP
    have hD : va_D A (mW cI cZ h0 q S1) := by rw [eS1]; exact hD
    have h := h S1 eS1
    refine lv_aload_n hx hb dX12_traps_5 rfl (lv_at hl 0 rfl) ?_
    refine va_get (D := D) (ci := 12) (v := .ref (q 50)) (C := RX12) (T := TX12) (N := 52) hx hb hts (fun _ h => List.mem_cons_of_mem _ (List.mem_append_right _ h)) hown hK hP 0 rfl rfl 50 (by decide) (hts (.fieldLink RX12 126 "TemplateForgeModel" "trap" "[I") (List.mem_of_getElem? (i := 2) rfl)) (fun _ h9 => h9) rfl dX12_traps_6 ?_
    refine lv_iconst (v := 0) hx hb dX12_traps_9 (by decide) ?_
    refine lv_iload_n hx hb dX12_traps_10 rfl (lv_at hl 1 rfl) ?_
    have hin_2 := h.1
    have h := h.2
    refine va_iast hx hb hK hP hD hS 39 0 rfl rfl hin_2 dX12_traps_11 (fun H locs hP hD hS => ?_)
    obtain ⟨S2, eS2⟩ : ∃ z, z = ms S1 50 (upd (S1 50) (0 : Int32).toNatClampNeg a1) := ⟨_, rfl⟩
    have hP : va_P D vwCl (mW cI cZ h0 q S2) H := by rw [eS2]; exact hP
    have hD : va_D A (mW cI cZ h0 q S2) := by rw [eS2]; exact hD
    have h := h S2 eS2
    refine lv_aload_n hx hb dX12_traps_12 rfl (lv_at hl 0 rfl) ?_
    refine va_get (D := D) (ci := 12) (v := .ref (q 50)) (C := RX12) (T := TX12) (N := 52) hx hb hts (fun _ h => List.mem_cons_of_mem _ (List.mem_append_right _ h)) hown hK hP 0 rfl rfl 50 (by decide) (hts (.fieldLink RX12 126 "TemplateForgeModel" "trap" "[I") (List.mem_of_getElem? (i := 2) rfl)) (fun _ h9 => h9) rfl dX12_traps_13 ?_
    refine lv_iconst (v := 1) hx hb dX12_traps_16 (by decide) ?_
    refine lv_aload_n hx hb dX12_traps_17 rfl (lv_at hl 0 rfl) ?_
    refine va_get (D := D) (ci := 12) (v := .ref (q 38)) (C := RX12) (T := TX12) (N := 52) hx hb hts (fun _ h => List.mem_cons_of_mem _ (List.mem_append_right _ h)) hown hK hP 0 rfl rfl 38 (by decide) (hts (.fieldLink RX12 111 "TemplateForgeModel" "frameMethod" "[I") (List.mem_of_getElem? (i := 3) rfl)) (fun _ h9 => h9) rfl dX12_traps_18 ?_
    refine lv_aload_n hx hb dX12_traps_21 rfl (lv_at hl 0 rfl) ?_
    refine va_get (D := D) (ci := 12) (v := .int (S2 37 0)) (C := RX12) (T := TX12) (N := 52) hx hb hts (fun _ h => List.mem_cons_of_mem _ (List.mem_append_right _ h)) hown hK hP 0 rfl rfl 37 (by decide) (hts (.fieldLink RX12 236 "TemplateForgeModel" "open" "I") (List.mem_of_getElem? (i := 4) rfl)) (fun _ h9 => h9) rfl dX12_traps_22 ?_
    refine lv_iconst (v := 1) hx hb dX12_traps_25 (by decide) ?_
    refine lv_isub hx hb dX12_traps_26 ?_
    have hin_3 := h.1
    have h := h.2
    refine va_iald hx hb hK hP 34 0 rfl rfl hin_3 dX12_traps_27 ?_
    have hin_4 := h.1
    have h := h.2
    refine va_iast hx hb hK hP hD hS 39 0 rfl rfl hin_4 dX12_traps_28 (fun H locs hP hD hS => ?_)
    obtain ⟨S4, eS4⟩ : ∃ z, z = ms S2 50 (upd (S2 50) (1 : Int32).toNatClampNeg (S2 38 ((S2 37 0) - 1 : Int32).toNatClampNeg)) := ⟨_, rfl⟩
    have hP : va_P D vwCl (mW cI cZ h0 q S4) H := by rw [eS4]; exact hP
    have hD : va_D A (mW cI cZ h0 q S4) := by rw [eS4]; exact hD
    have h := h S4 eS4
    refine lv_aload_n hx hb dX12_traps_29 rfl (lv_at hl 0 rfl) ?_
    refine va_get (D := D) (ci := 12) (v := .ref (q 50)) (C := RX12) (T := TX12) (N := 52) hx hb hts (fun _ h => List.mem_cons_of_mem _ (List.mem_append_right _ h)) hown hK hP 0 rfl rfl 50 (by decide) (hts (.fieldLink RX12 126 "TemplateForgeModel" "trap" "[I") (List.mem_of_getElem? (i := 2) rfl)) (fun _ h9 => h9) rfl dX12_traps_30 ?_
    refine lv_iconst (v := 2) hx hb dX12_traps_33 (by decide) ?_
    refine lv_iload_n hx hb dX12_traps_34 rfl (lv_at hl 2 rfl) ?_
    have hin_5 := h.1
    have h := h.2
    refine va_iast hx hb hK hP hD hS 39 0 rfl rfl hin_5 dX12_traps_35 (fun H locs hP hD hS => ?_)
    obtain ⟨S5, eS5⟩ : ∃ z, z = ms S4 50 (upd (S4 50) (2 : Int32).toNatClampNeg a2) := ⟨_, rfl⟩
    have hP : va_P D vwCl (mW cI cZ h0 q S5) H := by rw [eS5]; exact hP
    have hD : va_D A (mW cI cZ h0 q S5) := by rw [eS5]; exact hD
    have h := h S5 eS5
    refine lv_aload_n hx hb dX12_traps_36 rfl (lv_at hl 0 rfl) ?_
    refine va_get (D := D) (ci := 12) (v := .ref (q 50)) (C := RX12) (T := TX12) (N := 52) hx hb hts (fun _ h => List.mem_cons_of_mem _ (List.mem_append_right _ h)) hown hK hP 0 rfl rfl 50 (by decide) (hts (.fieldLink RX12 126 "TemplateForgeModel" "trap" "[I") (List.mem_of_getElem? (i := 2) rfl)) (fun _ h9 => h9) rfl dX12_traps_37 ?_
    refine lv_iconst (v := 3) hx hb dX12_traps_40 (by decide) ?_
    refine lv_aload_n hx hb dX12_traps_41 rfl (lv_at hl 0 rfl) ?_
    refine va_get (D := D) (ci := 12) (v := .int (S5 37 0)) (C := RX12) (T := TX12) (N := 52) hx hb hts (fun _ h => List.mem_cons_of_mem _ (List.mem_append_right _ h)) hown hK hP 0 rfl rfl 37 (by decide) (hts (.fieldLink RX12 236 "TemplateForgeModel" "open" "I") (List.mem_of_getElem? (i := 4) rfl)) (fun _ h9 => h9) rfl dX12_traps_42 ?_
    have hin_6 := h.1
    have h := h.2
    refine va_iast hx hb hK hP hD hS 39 0 rfl rfl hin_6 dX12_traps_45 (fun H locs hP hD hS => ?_)
    obtain ⟨S6, eS6⟩ : ∃ z, z = ms S5 50 (upd (S5 50) (3 : Int32).toNatClampNeg (S5 37 0)) := ⟨_, rfl⟩
    have hP : va_P D vwCl (mW cI cZ h0 q S6) H := by rw [eS6]; exact hP
    have hD : va_D A (mW cI cZ h0 q S6) := by rw [eS6]; exact hD
    have h := h S6 eS6
    exact W.vret hx hb hr (fun t ht hW => ⟨⟨S6, rfl, h, by rw [ht]; exact hP, hD⟩, hS.F ht⟩) hS.2.2 dX12_traps_46
  exact key _ _ hP va_S.rf
def wp_X12_stepOn (S : MST) (Post : MST → Int32 → Prop) : Prop :=
  ((¬ (((S 44 0) : Int32) = 1500)) → (∀ S2 : MST, S2 = ms S 44 (fun _ => (S 44 0) + 1) → (Post S2 1))) ∧ ((((S 44 0) : Int32) = 1500) → (∀ S3 : MST, S3 = ms S 43 (fun _ => 3) → (Post S3 0)))
def zw_zd_X12_stepOn_w0 : List Cond := [.fieldLink RX12 230 "TemplateForgeModel" "steps" "I", .fieldLink RX12 233 "TemplateForgeModel" "outcome" "I"]
def zw_zd_X12_stepOn : List Cond := .code yX12_stepOn cX12_stepOn 1 (some .boolean) :: ((zw_zd_X12_stepOn_w0) ++ wsX120)
set_option maxHeartbeats 16000000 in
set_option maxRecDepth 100000 in
theorem zd_X12_stepOn (l : Launch) (D : va_G) (cI cZ cP cF : Nat) (h0 : Nat) (q : Nat → Nat) (S : MST) (sz : Nat) (Post : MST → Int32 → Prop) (h : wp_X12_stepOn S Post) : Met l yX12_stepOn zw_zd_X12_stepOn ({ frames := 0, cells := 0, slots := 0, locals := 0 }) (va_Pc [.ref h0] (fun U => U.heap.size = sz ∧ va_P D vwCl (mW cI cZ h0 q S) U.heap ∧ zE D cI cZ cP cF U ∧ va_D (fun _ => True) (mW cI cZ h0 q S))) (va_Qi (fun r S' => Post S' r) (fun (S' : MST) t => va_P D vwCl (mW cI cZ h0 q S') t.heap ∧ va_D (va_A (mW cI cZ h0 q S) sz) (mW cI cZ h0 q S')) (va_A (mW cI cZ h0 q S) sz)) 0 0 (va_A (mW cI cZ h0 q S) sz) := by
  unfold wp_X12_stepOn at h
  refine Met.ofW (cc := cX12_stepOn) (maxL := 1) (ret := (some .boolean)) (by decide) rfl ?_
  intro p e s m args below meth c s₁ B hml hv
  obtain ⟨rfl, hsz, hP, hE, hD0⟩ := hv
  have hx := B.exec
  have hb := B.bytes
  have hr := B.returns
  have hts := atoms_spec (ws := zw_zd_X12_stepOn) B.pre
  have hown : s.vm.findClass RX12 = some m.cls := findClass_of_methodNamed B.named
  have hlocks := B.notSynchronized
  have hK := hE.k
  subst hsz
  have hD := hD0.self (sz := s.heap.size)
  generalize hAe : va_A (mW cI cZ h0 q S) s.heap.size = A at hD ⊢
  have hA : ∀ q : Nat, s.heap.size ≤ q → A q := fun q h => by rw [← hAe]; exact Or.inr h
  have hl := lv_entry ([.ref h0]) (n := 1) (Nat.le_of_ble_eq_true rfl)
  rw [lg_entry_eq]
  generalize (lg_sl ([.ref h0]) ++ List.replicate (1 - (lg_sl ([.ref h0])).length) Slot.unset).toArray = ls at hl ⊢
  have hl : lv_has ls 1 [(0, .ref h0)] := hl
  have key : ∀ (H : Heap) (locs : List Loc), va_P D vwCl (mW cI cZ h0 q S) H → va_S A s.heap H locs → W p l e (headSpec zw_zd_X12_stepOn ({ frames := 0, cells := 0, slots := 0, locals := 0 })).room s m ([.ref h0] : List Value).toArray below meth c H locs 0 0 (MQ below (va_Qi (fun r S' => Post S' r) (fun (S' : MST) t => va_P D vwCl (mW cI cZ h0 q S') t.heap ∧ va_D A (mW cI cZ h0 q S')) A) ([.ref h0] : List Value).toArray s 0 0 A) (F0 m 0 ls []) := by
    intro H locs hP hS
    refine lv_aload_n hx hb dX12_stepOn_0 rfl (lv_at hl 0 rfl) ?_
    refine va_get (D := D) (ci := 12) (v := .int (S 44 0)) (C := RX12) (T := TX12) (N := 52) hx hb hts (fun _ h => List.mem_cons_of_mem _ (List.mem_append_right _ h)) hown hK hP 0 rfl rfl 44 (by decide) (hts (.fieldLink RX12 230 "TemplateForgeModel" "steps" "I") (List.mem_of_getElem? (i := 1) rfl)) (fun _ h9 => h9) rfl dX12_stepOn_1 ?_
    refine lv_sipush (v := 1500) hx hb dX12_stepOn_4 (by decide) ?_
    refine lv_icmp_ne (tgt := 17) hx hb dX12_stepOn_7 (by decide) (fun c_1 => ?_) (fun c_1 => ?_)
    · have h := h.1 c_1
      refine lv_aload_n hx hb dX12_stepOn_17 rfl (lv_at hl 0 rfl) ?_
      refine lv_dup hx hb dX12_stepOn_18 rfl ?_
      refine va_get (D := D) (ci := 12) (v := .int (S 44 0)) (C := RX12) (T := TX12) (N := 52) hx hb hts (fun _ h => List.mem_cons_of_mem _ (List.mem_append_right _ h)) hown hK hP 0 rfl rfl 44 (by decide) (hts (.fieldLink RX12 230 "TemplateForgeModel" "steps" "I") (List.mem_of_getElem? (i := 1) rfl)) (fun _ h9 => h9) rfl dX12_stepOn_19 ?_
      refine lv_iconst (v := 1) hx hb dX12_stepOn_22 (by decide) ?_
      refine lv_iadd hx hb dX12_stepOn_23 ?_
      refine va_put (D := D) (ci := 12) (v := .int ((S 44 0) + 1)) (ty := .int) (C := RX12) (T := TX12) (N := 52) hx hb hts (fun _ h => List.mem_cons_of_mem _ (List.mem_append_right _ h)) tyX12 tyX12_ok nmX12 hown hK hP hD hS 0 rfl rfl 44 (by decide) (hts (.fieldLink RX12 230 "TemplateForgeModel" "steps" "I") (List.mem_of_getElem? (i := 1) rfl)) (fun _ h9 => h9) rfl (by decide +kernel) rfl rfl (Nat.le_of_ble_eq_true rfl) dX12_stepOn_24 (fun H locs hP hD hS => ?_)
      obtain ⟨S2, eS2⟩ : ∃ z, z = ms S 44 (fun _ => (S 44 0) + 1) := ⟨_, rfl⟩
      have hP : va_P D vwCl (mW cI cZ h0 q S2) H := by rw [eS2]; exact hP
      have hD : va_D A (mW cI cZ h0 q S2) := by rw [eS2]; exact hD
      have h := h S2 eS2
      refine lv_iconst (v := 1) hx hb dX12_stepOn_27 (by decide) ?_
      exact W.zret (v := 1) (ty := .boolean) hx hb hr (by decide) (fun t ht hW => ⟨⟨_, S2, rfl, h, by rw [ht]; exact hP, hD⟩, hS.F ht⟩) hS.2.2 dX12_stepOn_28
    · have h := h.2 c_1
      refine lv_aload_n hx hb dX12_stepOn_10 rfl (lv_at hl 0 rfl) ?_
      refine lv_iconst (v := 3) hx hb dX12_stepOn_11 (by decide) ?_
      refine va_put (D := D) (ci := 12) (v := .int 3) (ty := .int) (C := RX12) (T := TX12) (N := 52) hx hb hts (fun _ h => List.mem_cons_of_mem _ (List.mem_append_right _ h)) tyX12 tyX12_ok nmX12 hown hK hP hD hS 0 rfl rfl 43 (by decide) (hts (.fieldLink RX12 233 "TemplateForgeModel" "outcome" "I") (List.mem_of_getElem? (i := 2) rfl)) (fun _ h9 => h9) rfl (by decide +kernel) rfl rfl (Nat.le_of_ble_eq_true rfl) dX12_stepOn_12 (fun H locs hP hD hS => ?_)
      obtain ⟨S3, eS3⟩ : ∃ z, z = ms S 43 (fun _ => 3) := ⟨_, rfl⟩
      have hP : va_P D vwCl (mW cI cZ h0 q S3) H := by rw [eS3]; exact hP
      have hD : va_D A (mW cI cZ h0 q S3) := by rw [eS3]; exact hD
      have h := h S3 eS3
      refine lv_iconst (v := 0) hx hb dX12_stepOn_15 (by decide) ?_
      exact W.zret (v := 0) (ty := .boolean) hx hb hr (by decide) (fun t ht hW => ⟨⟨_, S3, rfl, h, by rw [ht]; exact hP, hD⟩, hS.F ht⟩) hS.2.2 dX12_stepOn_16
  exact key _ _ hP va_S.rf
def wp_X12_codeNow (S : MST) (a1 : Int32) (Post : Int32 → Prop) : Prop :=
  vp_in a1 8 ∧ (Post (((12 * a1) + (S 17 (a1 : Int32).toNatClampNeg)) - 1))
def zw_zd_X12_codeNow_w0 : List Cond := [.fieldLink RX12 56 "TemplateForgeModel" "madeCodes" "[I"]
def zw_zd_X12_codeNow : List Cond := .code yX12_codeNow cX12_codeNow 2 (some .int) :: ((zw_zd_X12_codeNow_w0) ++ wsX120)
set_option maxHeartbeats 16000000 in
set_option maxRecDepth 100000 in
theorem zd_X12_codeNow (l : Launch) (D : va_G) (cI cZ cP cF : Nat) (h0 : Nat) (q : Nat → Nat) (S : MST) (a1 : Int32) (Post : Int32 → Prop) (h : wp_X12_codeNow S a1 Post) : Met l yX12_codeNow zw_zd_X12_codeNow ({ frames := 0, cells := 0, slots := 0, locals := 0 }) (va_Pc [.ref h0, .int a1] (fun U => va_P D vwCl (mW cI cZ h0 q S) U.heap ∧ zE D cI cZ cP cF U)) (vp_Si Post) 0 0 (fun _ => False) := by
  unfold wp_X12_codeNow at h
  refine Met.ofW (cc := cX12_codeNow) (maxL := 2) (ret := (some .int)) (by decide) rfl ?_
  intro p e s m args below meth c s₁ B hml hv
  obtain ⟨rfl, hP, hE⟩ := hv
  have hx := B.exec
  have hb := B.bytes
  have hr := B.returns
  have hts := atoms_spec (ws := zw_zd_X12_codeNow) B.pre
  have hown : s.vm.findClass RX12 = some m.cls := findClass_of_methodNamed B.named
  have hlocks := B.notSynchronized
  have hK := hE.k
  have hl := lv_entry ([.ref h0, .int a1]) (n := 2) (Nat.le_of_ble_eq_true rfl)
  rw [lg_entry_eq]
  generalize (lg_sl ([.ref h0, .int a1]) ++ List.replicate (2 - (lg_sl ([.ref h0, .int a1])).length) Slot.unset).toArray = ls at hl ⊢
  have hl : lv_has ls 2 [(0, .ref h0), (1, .int a1)] := hl
  refine lv_bipush (v := 12) hx hb dX12_codeNow_0 (by decide) ?_
  refine lv_iload_n hx hb dX12_codeNow_2 rfl (lv_at hl 1 rfl) ?_
  refine lv_imul hx hb dX12_codeNow_3 ?_
  refine lv_aload_n hx hb dX12_codeNow_4 rfl (lv_at hl 0 rfl) ?_
  refine va_get (D := D) (ci := 12) (v := .ref (q 17)) (C := RX12) (T := TX12) (N := 52) hx hb hts (fun _ h => List.mem_cons_of_mem _ (List.mem_append_right _ h)) hown hK hP 0 rfl rfl 17 (by decide) (hts (.fieldLink RX12 56 "TemplateForgeModel" "madeCodes" "[I") (List.mem_of_getElem? (i := 1) rfl)) (fun _ h9 => h9) rfl dX12_codeNow_5 ?_
  refine lv_iload_n hx hb dX12_codeNow_8 rfl (lv_at hl 1 rfl) ?_
  have hin_1 := h.1
  have h := h.2
  refine va_iald hx hb hK hP 16 0 rfl rfl hin_1 dX12_codeNow_9 ?_
  refine lv_iadd hx hb dX12_codeNow_10 ?_
  refine lv_iconst (v := 1) hx hb dX12_codeNow_11 (by decide) ?_
  refine lv_isub hx hb dX12_codeNow_12 ?_
  exact W.iret (v := ((12 * a1) + (S 17 (a1 : Int32).toNatClampNeg)) - 1) hx hb hr (fun t ht hW => ⟨_, rfl, h, ht⟩) (fun q h => by cases h) dX12_codeNow_13
def wp_X12_part (S : MST) (a1 : Int32) (a2 : Int32) (a3 : Int32) (a4 : Int32) (Post : MST → Prop) : Prop :=
  vp_in (S 31 0) 96 ∧ (vp_in ((640 * (S 31 0)) + (S 23 (S 31 0 : Int32).toNatClampNeg)) 61440 ∧ (∀ S2 : MST, S2 = ms S 25 (upd (S 25) ((640 * (S 31 0)) + (S 23 (S 31 0 : Int32).toNatClampNeg) : Int32).toNatClampNeg a1) → (vp_in ((640 * (S 31 0)) + (S 23 (S 31 0 : Int32).toNatClampNeg)) 61440 ∧ (∀ S3 : MST, S3 = ms S2 26 (upd (S2 26) ((640 * (S 31 0)) + (S 23 (S 31 0 : Int32).toNatClampNeg) : Int32).toNatClampNeg a2) → (vp_in ((640 * (S 31 0)) + (S 23 (S 31 0 : Int32).toNatClampNeg)) 61440 ∧ (∀ S4 : MST, S4 = ms S3 27 (upd (S3 27) ((640 * (S 31 0)) + (S 23 (S 31 0 : Int32).toNatClampNeg) : Int32).toNatClampNeg a3) → (vp_in ((640 * (S 31 0)) + (S 23 (S 31 0 : Int32).toNatClampNeg)) 61440 ∧ (∀ S5 : MST, S5 = ms S4 28 (upd (S4 28) ((640 * (S 31 0)) + (S 23 (S 31 0 : Int32).toNatClampNeg) : Int32).toNatClampNeg a4) → (vp_in ((640 * (S 31 0)) + (S 23 (S 31 0 : Int32).toNatClampNeg)) 61440 ∧ (∀ S6 : MST, S6 = ms S5 29 (upd (S5 29) ((640 * (S 31 0)) + (S 23 (S 31 0 : Int32).toNatClampNeg) : Int32).toNatClampNeg (S5 32 0)) → (vp_in (S6 31 0) 96 ∧ (vp_in (S6 31 0) 96 ∧ (∀ S8 : MST, S8 = ms S6 23 (upd (S6 23) (S6 31 0 : Int32).toNatClampNeg ((S6 23 (S6 31 0 : Int32).toNatClampNeg) + 1)) → (Post S8))))))))))))))
def zw_zd_X12_part_w0 : List Cond := [.fieldLink RX12 181 "TemplateForgeModel" "code" "I", .fieldLink RX12 74 "TemplateForgeModel" "partMany" "[I", .fieldLink RX12 81 "TemplateForgeModel" "partOp" "[I", .fieldLink RX12 84 "TemplateForgeModel" "partD" "[I", .fieldLink RX12 87 "TemplateForgeModel" "partA" "[I", .fieldLink RX12 90 "TemplateForgeModel" "partB" "[I", .fieldLink RX12 93 "TemplateForgeModel" "partOf" "[I", .fieldLink RX12 184 "TemplateForgeModel" "owner" "I"]
def zw_zd_X12_part : List Cond := .code yX12_part cX12_part 6 none :: ((zw_zd_X12_part_w0) ++ wsX120)
set_option maxHeartbeats 16000000 in
set_option maxRecDepth 100000 in
theorem zd_X12_part (l : Launch) (D : va_G) (cI cZ cP cF : Nat) (h0 : Nat) (q : Nat → Nat) (S : MST) (a1 : Int32) (a2 : Int32) (a3 : Int32) (a4 : Int32) (sz : Nat) (Post : MST → Prop) (h : wp_X12_part S a1 a2 a3 a4 Post) : Met l yX12_part zw_zd_X12_part ({ frames := 0, cells := 0, slots := 0, locals := 0 }) (va_Pc [.ref h0, .int a1, .int a2, .int a3, .int a4] (fun U => U.heap.size = sz ∧ va_P D vwCl (mW cI cZ h0 q S) U.heap ∧ zE D cI cZ cP cF U ∧ va_D (fun _ => True) (mW cI cZ h0 q S))) (va_Qv (fun S' => Post S') (fun (S' : MST) t => va_P D vwCl (mW cI cZ h0 q S') t.heap ∧ va_D (va_A (mW cI cZ h0 q S) sz) (mW cI cZ h0 q S')) (va_A (mW cI cZ h0 q S) sz)) 0 0 (va_A (mW cI cZ h0 q S) sz) := by
  unfold wp_X12_part at h
  refine Met.ofW (cc := cX12_part) (maxL := 6) (ret := none) (by decide) rfl ?_
  intro p e s m args below meth c s₁ B hml hv
  obtain ⟨rfl, hsz, hP, hE, hD0⟩ := hv
  have hx := B.exec
  have hb := B.bytes
  have hr := B.returns
  have hts := atoms_spec (ws := zw_zd_X12_part) B.pre
  have hown : s.vm.findClass RX12 = some m.cls := findClass_of_methodNamed B.named
  have hlocks := B.notSynchronized
  have hK := hE.k
  subst hsz
  have hD := hD0.self (sz := s.heap.size)
  generalize hAe : va_A (mW cI cZ h0 q S) s.heap.size = A at hD ⊢
  have hA : ∀ q : Nat, s.heap.size ≤ q → A q := fun q h => by rw [← hAe]; exact Or.inr h
  have hl := lv_entry ([.ref h0, .int a1, .int a2, .int a3, .int a4]) (n := 6) (Nat.le_of_ble_eq_true rfl)
  rw [lg_entry_eq]
  generalize (lg_sl ([.ref h0, .int a1, .int a2, .int a3, .int a4]) ++ List.replicate (6 - (lg_sl ([.ref h0, .int a1, .int a2, .int a3, .int a4])).length) Slot.unset).toArray = ls at hl ⊢
  have hl : lv_has ls 6 [(0, .ref h0), (1, .int a1), (2, .int a2), (3, .int a3), (4, .int a4)] := hl
  have key : ∀ (H : Heap) (locs : List Loc), va_P D vwCl (mW cI cZ h0 q S) H → va_S A s.heap H locs → W p l e (headSpec zw_zd_X12_part ({ frames := 0, cells := 0, slots := 0, locals := 0 })).room s m ([.ref h0, .int a1, .int a2, .int a3, .int a4] : List Value).toArray below meth c H locs 0 0 (MQ below (va_Qv (fun S' => Post S') (fun (S' : MST) t => va_P D vwCl (mW cI cZ h0 q S') t.heap ∧ va_D A (mW cI cZ h0 q S')) A) ([.ref h0, .int a1, .int a2, .int a3, .int a4] : List Value).toArray s 0 0 A) (F0 m 0 ls []) := by
    intro H locs hP hS
    refine lv_sipush (v := 640) hx hb dX12_part_0 (by decide) ?_
    refine lv_aload_n hx hb dX12_part_3 rfl (lv_at hl 0 rfl) ?_
    refine va_get (D := D) (ci := 12) (v := .int (S 31 0)) (C := RX12) (T := TX12) (N := 52) hx hb hts (fun _ h => List.mem_cons_of_mem _ (List.mem_append_right _ h)) hown hK hP 0 rfl rfl 31 (by decide) (hts (.fieldLink RX12 181 "TemplateForgeModel" "code" "I") (List.mem_of_getElem? (i := 1) rfl)) (fun _ h9 => h9) rfl dX12_part_4 ?_
    refine lv_imul hx hb dX12_part_7 ?_
    refine lv_aload_n hx hb dX12_part_8 rfl (lv_at hl 0 rfl) ?_
    refine va_get (D := D) (ci := 12) (v := .ref (q 23)) (C := RX12) (T := TX12) (N := 52) hx hb hts (fun _ h => List.mem_cons_of_mem _ (List.mem_append_right _ h)) hown hK hP 0 rfl rfl 23 (by decide) (hts (.fieldLink RX12 74 "TemplateForgeModel" "partMany" "[I") (List.mem_of_getElem? (i := 2) rfl)) (fun _ h9 => h9) rfl dX12_part_9 ?_
    refine lv_aload_n hx hb dX12_part_12 rfl (lv_at hl 0 rfl) ?_
    refine va_get (D := D) (ci := 12) (v := .int (S 31 0)) (C := RX12) (T := TX12) (N := 52) hx hb hts (fun _ h => List.mem_cons_of_mem _ (List.mem_append_right _ h)) hown hK hP 0 rfl rfl 31 (by decide) (hts (.fieldLink RX12 181 "TemplateForgeModel" "code" "I") (List.mem_of_getElem? (i := 1) rfl)) (fun _ h9 => h9) rfl dX12_part_13 ?_
    have hin_1 := h.1
    have h := h.2
    refine va_iald hx hb hK hP 22 0 rfl rfl hin_1 dX12_part_16 ?_
    refine lv_iadd hx hb dX12_part_17 ?_
    refine lv_istore (lv' := [(5, .int ((640 * (S 31 0)) + (S 23 (S 31 0 : Int32).toNatClampNeg))), (0, .ref h0), (1, .int a1), (2, .int a2), (3, .int a3), (4, .int a4)]) hx hb dX12_part_18 hl (by decide) rfl (fun ls hl => ?_)
    refine lv_aload_n hx hb dX12_part_20 rfl (lv_at hl 1 rfl) ?_
    refine va_get (D := D) (ci := 12) (v := .ref (q 25)) (C := RX12) (T := TX12) (N := 52) hx hb hts (fun _ h => List.mem_cons_of_mem _ (List.mem_append_right _ h)) hown hK hP 0 rfl rfl 25 (by decide) (hts (.fieldLink RX12 81 "TemplateForgeModel" "partOp" "[I") (List.mem_of_getElem? (i := 3) rfl)) (fun _ h9 => h9) rfl dX12_part_21 ?_
    refine lv_iload hx hb dX12_part_24 (lv_at hl 0 rfl) ?_
    refine lv_iload_n hx hb dX12_part_26 rfl (lv_at hl 2 rfl) ?_
    have hin_2 := h.1
    have h := h.2
    refine va_iast hx hb hK hP hD hS 24 0 rfl rfl hin_2 dX12_part_27 (fun H locs hP hD hS => ?_)
    obtain ⟨S2, eS2⟩ : ∃ z, z = ms S 25 (upd (S 25) ((640 * (S 31 0)) + (S 23 (S 31 0 : Int32).toNatClampNeg) : Int32).toNatClampNeg a1) := ⟨_, rfl⟩
    have hP : va_P D vwCl (mW cI cZ h0 q S2) H := by rw [eS2]; exact hP
    have hD : va_D A (mW cI cZ h0 q S2) := by rw [eS2]; exact hD
    have h := h S2 eS2
    refine lv_aload_n hx hb dX12_part_28 rfl (lv_at hl 1 rfl) ?_
    refine va_get (D := D) (ci := 12) (v := .ref (q 26)) (C := RX12) (T := TX12) (N := 52) hx hb hts (fun _ h => List.mem_cons_of_mem _ (List.mem_append_right _ h)) hown hK hP 0 rfl rfl 26 (by decide) (hts (.fieldLink RX12 84 "TemplateForgeModel" "partD" "[I") (List.mem_of_getElem? (i := 4) rfl)) (fun _ h9 => h9) rfl dX12_part_29 ?_
    refine lv_iload hx hb dX12_part_32 (lv_at hl 0 rfl) ?_
    refine lv_iload_n hx hb dX12_part_34 rfl (lv_at hl 3 rfl) ?_
    have hin_3 := h.1
    have h := h.2
    refine va_iast hx hb hK hP hD hS 25 0 rfl rfl hin_3 dX12_part_35 (fun H locs hP hD hS => ?_)
    obtain ⟨S3, eS3⟩ : ∃ z, z = ms S2 26 (upd (S2 26) ((640 * (S 31 0)) + (S 23 (S 31 0 : Int32).toNatClampNeg) : Int32).toNatClampNeg a2) := ⟨_, rfl⟩
    have hP : va_P D vwCl (mW cI cZ h0 q S3) H := by rw [eS3]; exact hP
    have hD : va_D A (mW cI cZ h0 q S3) := by rw [eS3]; exact hD
    have h := h S3 eS3
    refine lv_aload_n hx hb dX12_part_36 rfl (lv_at hl 1 rfl) ?_
    refine va_get (D := D) (ci := 12) (v := .ref (q 27)) (C := RX12) (T := TX12) (N := 52) hx hb hts (fun _ h => List.mem_cons_of_mem _ (List.mem_append_right _ h)) hown hK hP 0 rfl rfl 27 (by decide) (hts (.fieldLink RX12 87 "TemplateForgeModel" "partA" "[I") (List.mem_of_getElem? (i := 5) rfl)) (fun _ h9 => h9) rfl dX12_part_37 ?_
    refine lv_iload hx hb dX12_part_40 (lv_at hl 0 rfl) ?_
    refine lv_iload_n hx hb dX12_part_42 rfl (lv_at hl 4 rfl) ?_
    have hin_4 := h.1
    have h := h.2
    refine va_iast hx hb hK hP hD hS 26 0 rfl rfl hin_4 dX12_part_43 (fun H locs hP hD hS => ?_)
    obtain ⟨S4, eS4⟩ : ∃ z, z = ms S3 27 (upd (S3 27) ((640 * (S 31 0)) + (S 23 (S 31 0 : Int32).toNatClampNeg) : Int32).toNatClampNeg a3) := ⟨_, rfl⟩
    have hP : va_P D vwCl (mW cI cZ h0 q S4) H := by rw [eS4]; exact hP
    have hD : va_D A (mW cI cZ h0 q S4) := by rw [eS4]; exact hD
    have h := h S4 eS4
    refine lv_aload_n hx hb dX12_part_44 rfl (lv_at hl 1 rfl) ?_
    refine va_get (D := D) (ci := 12) (v := .ref (q 28)) (C := RX12) (T := TX12) (N := 52) hx hb hts (fun _ h => List.mem_cons_of_mem _ (List.mem_append_right _ h)) hown hK hP 0 rfl rfl 28 (by decide) (hts (.fieldLink RX12 90 "TemplateForgeModel" "partB" "[I") (List.mem_of_getElem? (i := 6) rfl)) (fun _ h9 => h9) rfl dX12_part_45 ?_
    refine lv_iload hx hb dX12_part_48 (lv_at hl 0 rfl) ?_
    refine lv_iload hx hb dX12_part_50 (lv_at hl 5 rfl) ?_
    have hin_5 := h.1
    have h := h.2
    refine va_iast hx hb hK hP hD hS 27 0 rfl rfl hin_5 dX12_part_52 (fun H locs hP hD hS => ?_)
    obtain ⟨S5, eS5⟩ : ∃ z, z = ms S4 28 (upd (S4 28) ((640 * (S 31 0)) + (S 23 (S 31 0 : Int32).toNatClampNeg) : Int32).toNatClampNeg a4) := ⟨_, rfl⟩
    have hP : va_P D vwCl (mW cI cZ h0 q S5) H := by rw [eS5]; exact hP
    have hD : va_D A (mW cI cZ h0 q S5) := by rw [eS5]; exact hD
    have h := h S5 eS5
    refine lv_aload_n hx hb dX12_part_53 rfl (lv_at hl 1 rfl) ?_
    refine va_get (D := D) (ci := 12) (v := .ref (q 29)) (C := RX12) (T := TX12) (N := 52) hx hb hts (fun _ h => List.mem_cons_of_mem _ (List.mem_append_right _ h)) hown hK hP 0 rfl rfl 29 (by decide) (hts (.fieldLink RX12 93 "TemplateForgeModel" "partOf" "[I") (List.mem_of_getElem? (i := 7) rfl)) (fun _ h9 => h9) rfl dX12_part_54 ?_
    refine lv_iload hx hb dX12_part_57 (lv_at hl 0 rfl) ?_
    refine lv_aload_n hx hb dX12_part_59 rfl (lv_at hl 1 rfl) ?_
    refine va_get (D := D) (ci := 12) (v := .int (S5 32 0)) (C := RX12) (T := TX12) (N := 52) hx hb hts (fun _ h => List.mem_cons_of_mem _ (List.mem_append_right _ h)) hown hK hP 0 rfl rfl 32 (by decide) (hts (.fieldLink RX12 184 "TemplateForgeModel" "owner" "I") (List.mem_of_getElem? (i := 8) rfl)) (fun _ h9 => h9) rfl dX12_part_60 ?_
    have hin_6 := h.1
    have h := h.2
    refine va_iast hx hb hK hP hD hS 28 0 rfl rfl hin_6 dX12_part_63 (fun H locs hP hD hS => ?_)
    obtain ⟨S6, eS6⟩ : ∃ z, z = ms S5 29 (upd (S5 29) ((640 * (S 31 0)) + (S 23 (S 31 0 : Int32).toNatClampNeg) : Int32).toNatClampNeg (S5 32 0)) := ⟨_, rfl⟩
    have hP : va_P D vwCl (mW cI cZ h0 q S6) H := by rw [eS6]; exact hP
    have hD : va_D A (mW cI cZ h0 q S6) := by rw [eS6]; exact hD
    have h := h S6 eS6
    refine lv_aload_n hx hb dX12_part_64 rfl (lv_at hl 1 rfl) ?_
    refine va_get (D := D) (ci := 12) (v := .ref (q 23)) (C := RX12) (T := TX12) (N := 52) hx hb hts (fun _ h => List.mem_cons_of_mem _ (List.mem_append_right _ h)) hown hK hP 0 rfl rfl 23 (by decide) (hts (.fieldLink RX12 74 "TemplateForgeModel" "partMany" "[I") (List.mem_of_getElem? (i := 2) rfl)) (fun _ h9 => h9) rfl dX12_part_65 ?_
    refine lv_aload_n hx hb dX12_part_68 rfl (lv_at hl 1 rfl) ?_
    refine va_get (D := D) (ci := 12) (v := .int (S6 31 0)) (C := RX12) (T := TX12) (N := 52) hx hb hts (fun _ h => List.mem_cons_of_mem _ (List.mem_append_right _ h)) hown hK hP 0 rfl rfl 31 (by decide) (hts (.fieldLink RX12 181 "TemplateForgeModel" "code" "I") (List.mem_of_getElem? (i := 1) rfl)) (fun _ h9 => h9) rfl dX12_part_69 ?_
    refine lv_dup2_11 hx hb dX12_part_72 rfl rfl ?_
    have hin_7 := h.1
    have h := h.2
    refine va_iald hx hb hK hP 22 0 rfl rfl hin_7 dX12_part_73 ?_
    refine lv_iconst (v := 1) hx hb dX12_part_74 (by decide) ?_
    refine lv_iadd hx hb dX12_part_75 ?_
    have hin_8 := h.1
    have h := h.2
    refine va_iast hx hb hK hP hD hS 22 0 rfl rfl hin_8 dX12_part_76 (fun H locs hP hD hS => ?_)
    obtain ⟨S8, eS8⟩ : ∃ z, z = ms S6 23 (upd (S6 23) (S6 31 0 : Int32).toNatClampNeg ((S6 23 (S6 31 0 : Int32).toNatClampNeg) + 1)) := ⟨_, rfl⟩
    have hP : va_P D vwCl (mW cI cZ h0 q S8) H := by rw [eS8]; exact hP
    have hD : va_D A (mW cI cZ h0 q S8) := by rw [eS8]; exact hD
    have h := h S8 eS8
    exact W.vret hx hb hr (fun t ht hW => ⟨⟨S8, rfl, h, by rw [ht]; exact hP, hD⟩, hS.F ht⟩) hS.2.2 dX12_part_77
  exact key _ _ hP va_S.rf
def wl_X12_fieldGuards_2 (K_46 : MST → Prop) (Post : MST → Prop) : Nat → MST → Int32 → Int32 → Prop
  | 0, _, _, _ => False
  | n_2 + 1, S_2, x2_1, x2_2 => ((8 ≤ x2_2) → ((K_46 S_2 ))) ∧ ((¬ (8 ≤ x2_2)) → (vp_in (3 + x2_2) 11 ∧ (((((S_2 30 (3 + x2_2 : Int32).toNatClampNeg) : Int32) = 0) → (wl_X12_fieldGuards_2 K_46 Post n_2 S_2 x2_1 (x2_2 + 1))) ∧ ((¬ (((S_2 30 (3 + x2_2 : Int32).toNatClampNeg) : Int32) = 0)) → (vp_in (((11 * x2_1) + 3) + x2_2) 88 ∧ (wp_X12_part S_2 18 x2_2 (S_2 20 (((11 * x2_1) + 3) + x2_2 : Int32).toNatClampNeg) 0 (fun S5 => wl_X12_fieldGuards_2 K_46 Post n_2 S5 x2_1 (x2_2 + 1))))))))
def wp_X12_fieldGuards (S : MST) (a1 : Int32) (Post : MST → Prop) : Prop :=
  ∃ n_2, wl_X12_fieldGuards_2 (fun S_46 => Post S_46) Post n_2 S a1 0
def zw_zd_X12_fieldGuards_w0 : List Cond := [.fieldLink RX12 96 "TemplateForgeModel" "assumed" "[Z", .fieldLink RX12 65 "TemplateForgeModel" "value" "[I", .code yX12_part cX12_part 6 none, .fieldLink RX12 181 "TemplateForgeModel" "code" "I", .fieldLink RX12 74 "TemplateForgeModel" "partMany" "[I", .fieldLink RX12 81 "TemplateForgeModel" "partOp" "[I", .fieldLink RX12 84 "TemplateForgeModel" "partD" "[I", .fieldLink RX12 87 "TemplateForgeModel" "partA" "[I", .fieldLink RX12 90 "TemplateForgeModel" "partB" "[I", .fieldLink RX12 93 "TemplateForgeModel" "partOf" "[I", .fieldLink RX12 184 "TemplateForgeModel" "owner" "I", .methodLink RX12 187 yX12_part, .instanceMethod yX12_part, .selects RX12 yX12_part yX12_part, .initialized RX12]
def zw_zd_X12_fieldGuards : List Cond := .code yX12_fieldGuards cX12_fieldGuards 3 none :: ((zw_zd_X12_fieldGuards_w0) ++ wsX120)
set_option maxRecDepth 100000 in
theorem zg_zd_X12_fieldGuards_zd_X12_part_187_a : GoodIn zw_zd_X12_fieldGuards [.methodLink RX12 187 yX12_part, .instanceMethod yX12_part, .selects RX12 yX12_part yX12_part, .initialized RX12] := goodIn_r _ [12, 13, 14, 15] rfl (by decide +kernel)
set_option maxRecDepth 100000 in
theorem zg_zd_X12_fieldGuards_zd_X12_part_187_c : GoodIn zw_zd_X12_fieldGuards [.code yX12_part cX12_part 6 none] := goodIn_r _ [3] rfl (by decide +kernel)
set_option maxRecDepth 100000 in
theorem zg_zd_X12_fieldGuards_zd_X12_part_187_0 : GoodIn zw_zd_X12_fieldGuards zw_zd_X12_part_w0 := goodIn_r _ [4, 5, 6, 7, 8, 9, 10, 11] rfl (by decide +kernel)
theorem zg_zd_X12_fieldGuards_zd_X12_part_187 : GoodIn zw_zd_X12_fieldGuards (wsV RX12 187 RX12 yX12_part zw_zd_X12_part) := goodIn_app zg_zd_X12_fieldGuards_zd_X12_part_187_a (goodIn_ca (a := (zw_zd_X12_part_w0)) (show GoodIn zw_zd_X12_fieldGuards (.code yX12_part cX12_part 6 none :: (zw_zd_X12_part_w0)) from goodIn_app zg_zd_X12_fieldGuards_zd_X12_part_187_c (zg_zd_X12_fieldGuards_zd_X12_part_187_0)) (fun w h => ⟨(fun _ h => List.mem_cons_of_mem _ (List.mem_append_right _ h)) w h, good_of_word (List.all_eq_true.mp zgw_X12 w h)⟩))
set_option maxHeartbeats 16000000 in
set_option maxRecDepth 100000 in
theorem zd_X12_fieldGuards (l : Launch) (D : va_G) (cI cZ cP cF : Nat) (h0 : Nat) (q : Nat → Nat) (S : MST) (a1 : Int32) (sz : Nat) (Post : MST → Prop) (h : wp_X12_fieldGuards S a1 Post) : Met l yX12_fieldGuards zw_zd_X12_fieldGuards ({ frames := 1, cells := 0, slots := 0, locals := 25 }) (va_Pc [.ref h0, .int a1] (fun U => U.heap.size = sz ∧ va_P D vwCl (mW cI cZ h0 q S) U.heap ∧ zE D cI cZ cP cF U ∧ va_D (fun _ => True) (mW cI cZ h0 q S))) (va_Qv (fun S' => Post S') (fun (S' : MST) t => va_P D vwCl (mW cI cZ h0 q S') t.heap ∧ va_D (va_A (mW cI cZ h0 q S) sz) (mW cI cZ h0 q S')) (va_A (mW cI cZ h0 q S) sz)) 0 0 (va_A (mW cI cZ h0 q S) sz) := by
  unfold wp_X12_fieldGuards at h
  refine Met.ofW (cc := cX12_fieldGuards) (maxL := 3) (ret := none) (by decide) rfl ?_
  intro p e s m args below meth c s₁ B hml hv
  obtain ⟨rfl, hsz, hP, hE, hD0⟩ := hv
  have hx := B.exec
  have hb := B.bytes
  have hr := B.returns
  have hts := atoms_spec (ws := zw_zd_X12_fieldGuards) B.pre
  have hown : s.vm.findClass RX12 = some m.cls := findClass_of_methodNamed B.named
  have hlocks := B.notSynchronized
  have hK := hE.k
  subst hsz
  have hD := hD0.self (sz := s.heap.size)
  generalize hAe : va_A (mW cI cZ h0 q S) s.heap.size = A at hD ⊢
  have hA : ∀ q : Nat, s.heap.size ≤ q → A q := fun q h => by rw [← hAe]; exact Or.inr h
  have hl := lv_entry ([.ref h0, .int a1]) (n := 3) (Nat.le_of_ble_eq_true rfl)
  rw [lg_entry_eq]
  generalize (lg_sl ([.ref h0, .int a1]) ++ List.replicate (3 - (lg_sl ([.ref h0, .int a1])).length) Slot.unset).toArray = ls at hl ⊢
  have hl : lv_has ls 3 [(0, .ref h0), (1, .int a1)] := hl
  have key : ∀ (H : Heap) (locs : List Loc), va_P D vwCl (mW cI cZ h0 q S) H → va_S A s.heap H locs → W p l e (headSpec zw_zd_X12_fieldGuards ({ frames := 1, cells := 0, slots := 0, locals := 25 })).room s m ([.ref h0, .int a1] : List Value).toArray below meth c H locs 0 0 (MQ below (va_Qv (fun S' => Post S') (fun (S' : MST) t => va_P D vwCl (mW cI cZ h0 q S') t.heap ∧ va_D A (mW cI cZ h0 q S')) A) ([.ref h0, .int a1] : List Value).toArray s 0 0 A) (F0 m 0 ls []) := by
    intro H locs hP hS
    refine lv_iconst (v := 0) hx hb dX12_fieldGuards_0 (by decide) ?_
    refine lv_istore_n (lv' := [(2, .int 0), (0, .ref h0), (1, .int a1)]) hx hb dX12_fieldGuards_1 rfl hl (by decide) rfl (fun ls hl => ?_)
    have EX_2_46 : ∀ (S_46 : MST) (H : Heap) (locs : List Loc) (ls : Array Slot), (Post S_46) → va_P D vwCl (mW cI cZ h0 q S_46) H → va_D A (mW cI cZ h0 q S_46) → va_S A s.heap H locs → lv_has ls 3 [] → W p l e (headSpec zw_zd_X12_fieldGuards ({ frames := 1, cells := 0, slots := 0, locals := 25 })).room s m ([.ref h0, .int a1] : List Value).toArray below meth c H locs 0 0 (MQ below (va_Qv (fun S' => Post S') (fun (S' : MST) t => va_P D vwCl (mW cI cZ h0 q S') t.heap ∧ va_D A (mW cI cZ h0 q S')) A) ([.ref h0, .int a1] : List Value).toArray s 0 0 A) (F0 m 46 ls []) := by
      intro S_46  H locs ls h hP hD hS hl
      exact W.vret hx hb hr (fun t ht hW => ⟨⟨S_46, rfl, h, by rw [ht]; exact hP, hD⟩, hS.F ht⟩) hS.2.2 dX12_fieldGuards_46
    have LP_2 : ∀ (n_2 : Nat), ∀ (S_2 : MST) (x2_1 : Int32) (x2_2 : Int32) (H : Heap) (locs : List Loc) (ls : Array Slot), wl_X12_fieldGuards_2 (fun S_46 => Post S_46) Post n_2 S_2 x2_1 x2_2 → va_P D vwCl (mW cI cZ h0 q S_2) H → va_D A (mW cI cZ h0 q S_2) → va_S A s.heap H locs → lv_has ls 3 [(0, .ref h0), (1, .int x2_1), (2, .int x2_2)] → W p l e (headSpec zw_zd_X12_fieldGuards ({ frames := 1, cells := 0, slots := 0, locals := 25 })).room s m ([.ref h0, .int a1] : List Value).toArray below meth c H locs 0 0 (MQ below (va_Qv (fun S' => Post S') (fun (S' : MST) t => va_P D vwCl (mW cI cZ h0 q S') t.heap ∧ va_D A (mW cI cZ h0 q S')) A) ([.ref h0, .int a1] : List Value).toArray s 0 0 A) (F0 m 2 ls []) := by
      intro n_2
      induction n_2 with
      | zero =>
        intro S_2 x2_1 x2_2 H locs ls h hP hD hS hl
        exact False.elim h
      | succ n_2 ih_2 =>
        intro S_2 x2_1 x2_2 H locs ls h hP hD hS hl
        unfold wl_X12_fieldGuards_2 at h
        refine lv_iload_n hx hb dX12_fieldGuards_2 rfl (lv_at hl 2 rfl) ?_
        refine lv_bipush (v := 8) hx hb dX12_fieldGuards_3 (by decide) ?_
        refine lv_icmp_ge (tgt := 46) hx hb dX12_fieldGuards_5 (by decide) (fun c_1 => ?_) (fun c_1 => ?_)
        · have h := h.1 c_1
          exact EX_2_46  S_2  H locs _ h hP hD hS (lv_sub hl [] rfl)
        · have h := h.2 c_1
          refine lv_aload_n hx hb dX12_fieldGuards_8 rfl (lv_at hl 0 rfl) ?_
          refine va_get (D := D) (ci := 12) (v := .ref (q 30)) (C := RX12) (T := TX12) (N := 52) hx hb hts (fun _ h => List.mem_cons_of_mem _ (List.mem_append_right _ h)) hown hK hP 0 rfl rfl 30 (by decide) (hts (.fieldLink RX12 96 "TemplateForgeModel" "assumed" "[Z") (List.mem_of_getElem? (i := 1) rfl)) (fun _ h9 => h9) rfl dX12_fieldGuards_9 ?_
          refine lv_iconst (v := 3) hx hb dX12_fieldGuards_12 (by decide) ?_
          refine lv_iload_n hx hb dX12_fieldGuards_13 rfl (lv_at hl 2 rfl) ?_
          refine lv_iadd hx hb dX12_fieldGuards_14 ?_
          have hin_2 := h.1
          have h := h.2
          refine va_zald hx hb hK hP 29 1 rfl rfl hin_2 dX12_fieldGuards_15 ?_
          refine lv_if_eq (tgt := 40) hx hb dX12_fieldGuards_16 (by decide) (fun c_3 => ?_) (fun c_3 => ?_)
          · have h := h.1 c_3
            refine lv_iinc (v := x2_2 + 1) (lv' := [(2, .int (x2_2 + 1)), (0, .ref h0), (1, .int x2_1)]) hx hb dX12_fieldGuards_40 hl (k := 2) rfl rfl (by decide) rfl (fun ls hl => ?_)
            refine lv_goto (tgt := 2) hx hb dX12_fieldGuards_43 (by decide) ?_
            exact ih_2  S_2 x2_1 (x2_2 + 1) H locs _ h hP hD hS (lv_sub hl [1, 2, 0] rfl)
          · have h := h.2 c_3
            refine lv_aload_n hx hb dX12_fieldGuards_19 rfl (lv_at hl 0 rfl) ?_
            refine lv_bipush (v := 18) hx hb dX12_fieldGuards_20 (by decide) ?_
            refine lv_iload_n hx hb dX12_fieldGuards_22 rfl (lv_at hl 2 rfl) ?_
            refine lv_aload_n hx hb dX12_fieldGuards_23 rfl (lv_at hl 0 rfl) ?_
            refine va_get (D := D) (ci := 12) (v := .ref (q 20)) (C := RX12) (T := TX12) (N := 52) hx hb hts (fun _ h => List.mem_cons_of_mem _ (List.mem_append_right _ h)) hown hK hP 0 rfl rfl 20 (by decide) (hts (.fieldLink RX12 65 "TemplateForgeModel" "value" "[I") (List.mem_of_getElem? (i := 2) rfl)) (fun _ h9 => h9) rfl dX12_fieldGuards_24 ?_
            refine lv_bipush (v := 11) hx hb dX12_fieldGuards_27 (by decide) ?_
            refine lv_iload_n hx hb dX12_fieldGuards_29 rfl (lv_at hl 1 rfl) ?_
            refine lv_imul hx hb dX12_fieldGuards_30 ?_
            refine lv_iconst (v := 3) hx hb dX12_fieldGuards_31 (by decide) ?_
            refine lv_iadd hx hb dX12_fieldGuards_32 ?_
            refine lv_iload_n hx hb dX12_fieldGuards_33 rfl (lv_at hl 2 rfl) ?_
            refine lv_iadd hx hb dX12_fieldGuards_34 ?_
            have hin_4 := h.1
            have h := h.2
            refine va_iald hx hb hK hP 19 0 rfl rfl hin_4 dX12_fieldGuards_35 ?_
            refine lv_iconst (v := 0) hx hb dX12_fieldGuards_36 (by decide) ?_
            have hFc := zm_free hD hS hA
            refine va_callv (va_runV (As := [.int 18, .int x2_2, .int (S_2 20 (((11 * x2_1) + 3) + x2_2 : Int32).toNatClampNeg), .int 0]) (rest := []) ⟨hx, hb, hml, hown, hts⟩ (zd_X12_part l D cI cZ cP cF h0 q S_2 18 x2_2 (S_2 20 (((11 * x2_1) + 3) + x2_2 : Int32).toNatClampNeg) 0 H.size _ h) (cwV 4 hts zg_zd_X12_fieldGuards_zd_X12_part_187 rfl rfl rfl (by decide +kernel) ⟨Nat.le_of_ble_eq_true rfl, Nat.le_of_ble_eq_true rfl⟩) ⟨zBW, va_recv hK hP (ci := 12) (q0 := 0) rfl rfl, fun U hU hW => ⟨rfl, by rw [hU], by rw [hU]; exact hP, hE.warm hW, hD.weaken (fun _ _ _ _ => trivial)⟩⟩ rfl rfl hl.1 rfl (lv_room (Nat.le_of_ble_eq_true rfl)) dX12_fieldGuards_37 ⟨Nat.le_of_ble_eq_true rfl, Nat.le_of_ble_eq_true rfl⟩) hS (fun q _ h => hFc q h) hFc (fun S5 t H locs ht hvm h hB hz1 hk1 hS => ?_)
            obtain ⟨hP, hD1⟩ := hB
            rw [ht] at hP
            have hD := hD1.weaken (fun k q _ hq => hFc q.1 hq)
            refine lv_iinc (v := x2_2 + 1) (lv' := [(2, .int (x2_2 + 1)), (0, .ref h0), (1, .int x2_1)]) hx hb dX12_fieldGuards_40 hl (k := 2) rfl rfl (by decide) rfl (fun ls hl => ?_)
            refine lv_goto (tgt := 2) hx hb dX12_fieldGuards_43 (by decide) ?_
            exact ih_2  S5 x2_1 (x2_2 + 1) H locs _ h hP hD hS (lv_sub hl [1, 2, 0] rfl)
    obtain ⟨n_2, h⟩ := h
    exact LP_2 n_2 S a1 0 H locs _ h hP hD hS (lv_sub hl [1, 2, 0] rfl)
  exact key _ _ hP va_S.rf
def wp_X12_isTarget (S : MST) (a1 : Int32) (a2 : Int32) (Post : Int32 → Prop) : Prop :=
  wp_X12_has S a1 9 a2 (fun r1 => ((¬ ((r1 : Int32) = 0)) → (Post 1)) ∧ (((r1 : Int32) = 0) → (wp_X12_has S a1 10 a2 (fun r3 => (((r3 : Int32) = 0) → (Post 0)) ∧ ((¬ ((r3 : Int32) = 0)) → (Post 1))))))
def zw_zd_X12_isTarget_w0 : List Cond := [.code yX12_has cX12_has 6 (some .boolean), .fieldLink RX12 16 "TemplateForgeModel" "many" "[I", .fieldLink RX12 29 "TemplateForgeModel" "depths" "[I", .fieldLink RX12 19 "TemplateForgeModel" "op" "[I", .fieldLink RX12 22 "TemplateForgeModel" "operand" "[I", .methodLink RX12 178 yX12_has, .instanceMethod yX12_has, .selects RX12 yX12_has yX12_has, .initialized RX12]
def zw_zd_X12_isTarget : List Cond := .code yX12_isTarget cX12_isTarget 3 (some .boolean) :: ((zw_zd_X12_isTarget_w0) ++ wsX120)
set_option maxRecDepth 100000 in
theorem zg_zd_X12_isTarget_zd_X12_has_178_a : GoodIn zw_zd_X12_isTarget [.methodLink RX12 178 yX12_has, .instanceMethod yX12_has, .selects RX12 yX12_has yX12_has, .initialized RX12] := goodIn_r _ [6, 7, 8, 9] rfl (by decide +kernel)
set_option maxRecDepth 100000 in
theorem zg_zd_X12_isTarget_zd_X12_has_178_c : GoodIn zw_zd_X12_isTarget [.code yX12_has cX12_has 6 (some .boolean)] := goodIn_r _ [1] rfl (by decide +kernel)
set_option maxRecDepth 100000 in
theorem zg_zd_X12_isTarget_zd_X12_has_178_0 : GoodIn zw_zd_X12_isTarget zw_zd_X12_has_w0 := goodIn_r _ [2, 3, 4, 5] rfl (by decide +kernel)
theorem zg_zd_X12_isTarget_zd_X12_has_178 : GoodIn zw_zd_X12_isTarget (wsV RX12 178 RX12 yX12_has zw_zd_X12_has) := goodIn_app zg_zd_X12_isTarget_zd_X12_has_178_a (goodIn_ca (a := (zw_zd_X12_has_w0)) (show GoodIn zw_zd_X12_isTarget (.code yX12_has cX12_has 6 (some .boolean) :: (zw_zd_X12_has_w0)) from goodIn_app zg_zd_X12_isTarget_zd_X12_has_178_c (zg_zd_X12_isTarget_zd_X12_has_178_0)) (fun w h => ⟨(fun _ h => List.mem_cons_of_mem _ (List.mem_append_right _ h)) w h, good_of_word (List.all_eq_true.mp zgw_X12 w h)⟩))
set_option maxHeartbeats 16000000 in
set_option maxRecDepth 100000 in
theorem zd_X12_isTarget (l : Launch) (D : va_G) (cI cZ cP cF : Nat) (h0 : Nat) (q : Nat → Nat) (S : MST) (a1 : Int32) (a2 : Int32) (Post : Int32 → Prop) (h : wp_X12_isTarget S a1 a2 Post) : Met l yX12_isTarget zw_zd_X12_isTarget ({ frames := 1, cells := 0, slots := 0, locals := 25 }) (va_Pc [.ref h0, .int a1, .int a2] (fun U => va_P D vwCl (mW cI cZ h0 q S) U.heap ∧ zE D cI cZ cP cF U)) (vp_Si Post) 0 0 (fun _ => False) := by
  unfold wp_X12_isTarget at h
  refine Met.ofW (cc := cX12_isTarget) (maxL := 3) (ret := (some .boolean)) (by decide) rfl ?_
  intro p e s m args below meth c s₁ B hml hv
  obtain ⟨rfl, hP, hE⟩ := hv
  have hx := B.exec
  have hb := B.bytes
  have hr := B.returns
  have hts := atoms_spec (ws := zw_zd_X12_isTarget) B.pre
  have hown : s.vm.findClass RX12 = some m.cls := findClass_of_methodNamed B.named
  have hlocks := B.notSynchronized
  have hK := hE.k
  have hl := lv_entry ([.ref h0, .int a1, .int a2]) (n := 3) (Nat.le_of_ble_eq_true rfl)
  rw [lg_entry_eq]
  generalize (lg_sl ([.ref h0, .int a1, .int a2]) ++ List.replicate (3 - (lg_sl ([.ref h0, .int a1, .int a2])).length) Slot.unset).toArray = ls at hl ⊢
  have hl : lv_has ls 3 [(0, .ref h0), (1, .int a1), (2, .int a2)] := hl
  refine lv_aload_n hx hb dX12_isTarget_0 rfl (lv_at hl 0 rfl) ?_
  refine lv_iload_n hx hb dX12_isTarget_1 rfl (lv_at hl 1 rfl) ?_
  refine lv_bipush (v := 9) hx hb dX12_isTarget_2 (by decide) ?_
  refine lv_iload_n hx hb dX12_isTarget_4 rfl (lv_at hl 2 rfl) ?_
  refine vp_callSi (va_Run.run (va_runV (As := [.int a1, .int 9, .int a2]) (rest := []) ⟨hx, hb, hml, hown, hts⟩ (zd_X12_has l D cI cZ cP cF h0 q S a1 9 a2  _ h) (cwV 3 hts zg_zd_X12_isTarget_zd_X12_has_178 rfl rfl rfl (by decide +kernel) ⟨Nat.le_of_ble_eq_true rfl, Nat.le_of_ble_eq_true rfl⟩) ⟨zBR, va_recv hK hP (ci := 12) (q0 := 0) rfl rfl, fun U hU hW => ⟨rfl, by rw [hU]; exact hP, hE.warm hW⟩⟩ rfl rfl hl.1 rfl (lv_room (Nat.le_of_ble_eq_true rfl)) dX12_isTarget_5 ⟨Nat.le_of_ble_eq_true rfl, Nat.le_of_ble_eq_true rfl⟩)) (fun r1 h => ?_)
  refine lv_if_ne (tgt := 22) hx hb dX12_isTarget_8 (by decide) (fun c_2 => ?_) (fun c_2 => ?_)
  · have h := h.1 c_2
    refine lv_iconst (v := 1) hx hb dX12_isTarget_22 (by decide) ?_
    refine lv_goto (tgt := 27) hx hb dX12_isTarget_23 (by decide) ?_
    exact W.zret (v := 1) (ty := .boolean) hx hb hr (by decide) (fun t ht hW => ⟨_, rfl, h, ht⟩) (fun q h => by cases h) dX12_isTarget_27
  · have h := h.2 c_2
    refine lv_aload_n hx hb dX12_isTarget_11 rfl (lv_at hl 0 rfl) ?_
    refine lv_iload_n hx hb dX12_isTarget_12 rfl (lv_at hl 1 rfl) ?_
    refine lv_bipush (v := 10) hx hb dX12_isTarget_13 (by decide) ?_
    refine lv_iload_n hx hb dX12_isTarget_15 rfl (lv_at hl 2 rfl) ?_
    refine vp_callSi (va_Run.run (va_runV (As := [.int a1, .int 10, .int a2]) (rest := []) ⟨hx, hb, hml, hown, hts⟩ (zd_X12_has l D cI cZ cP cF h0 q S a1 10 a2  _ h) (cwV 3 hts zg_zd_X12_isTarget_zd_X12_has_178 rfl rfl rfl (by decide +kernel) ⟨Nat.le_of_ble_eq_true rfl, Nat.le_of_ble_eq_true rfl⟩) ⟨zBR, va_recv hK hP (ci := 12) (q0 := 0) rfl rfl, fun U hU hW => ⟨rfl, by rw [hU]; exact hP, hE.warm hW⟩⟩ rfl rfl hl.1 rfl (lv_room (Nat.le_of_ble_eq_true rfl)) dX12_isTarget_16 ⟨Nat.le_of_ble_eq_true rfl, Nat.le_of_ble_eq_true rfl⟩)) (fun r3 h => ?_)
    refine lv_if_eq (tgt := 26) hx hb dX12_isTarget_19 (by decide) (fun c_4 => ?_) (fun c_4 => ?_)
    · have h := h.1 c_4
      refine lv_iconst (v := 0) hx hb dX12_isTarget_26 (by decide) ?_
      exact W.zret (v := 0) (ty := .boolean) hx hb hr (by decide) (fun t ht hW => ⟨_, rfl, h, ht⟩) (fun q h => by cases h) dX12_isTarget_27
    · have h := h.2 c_4
      refine lv_iconst (v := 1) hx hb dX12_isTarget_22 (by decide) ?_
      refine lv_goto (tgt := 27) hx hb dX12_isTarget_23 (by decide) ?_
      exact W.zret (v := 1) (ty := .boolean) hx hb hr (by decide) (fun t ht hW => ⟨_, rfl, h, ht⟩) (fun q h => by cases h) dX12_isTarget_27
def wp_X12_layOne (S : MST) (a1 : Int32) (Post : MST → Prop) : Prop :=
  vp_in a1 9 ∧ (((((S 35 (a1 : Int32).toNatClampNeg) : Int32) = 0) → (Post S)) ∧ ((¬ (((S 35 (a1 : Int32).toNatClampNeg) : Int32) = 0)) → (vp_in a1 9 ∧ (wp_X12_part S 0 (7 + a1) (S 36 (a1 : Int32).toNatClampNeg) 0 (fun S4 => vp_in a1 9 ∧ (∀ S5 : MST, S5 = ms S4 35 (upd (S4 35) (a1 : Int32).toNatClampNeg (vp_nar .boolean 0)) → (Post S5)))))))
def zw_zd_X12_layOne_w0 : List Cond := [.fieldLink RX12 105 "TemplateForgeModel" "placeKnown" "[Z", .fieldLink RX12 108 "TemplateForgeModel" "placeIs" "[I", .code yX12_part cX12_part 6 none, .fieldLink RX12 181 "TemplateForgeModel" "code" "I", .fieldLink RX12 74 "TemplateForgeModel" "partMany" "[I", .fieldLink RX12 81 "TemplateForgeModel" "partOp" "[I", .fieldLink RX12 84 "TemplateForgeModel" "partD" "[I", .fieldLink RX12 87 "TemplateForgeModel" "partA" "[I", .fieldLink RX12 90 "TemplateForgeModel" "partB" "[I", .fieldLink RX12 93 "TemplateForgeModel" "partOf" "[I", .fieldLink RX12 184 "TemplateForgeModel" "owner" "I", .methodLink RX12 187 yX12_part, .instanceMethod yX12_part, .selects RX12 yX12_part yX12_part, .initialized RX12]
def zw_zd_X12_layOne : List Cond := .code yX12_layOne cX12_layOne 2 none :: ((zw_zd_X12_layOne_w0) ++ wsX120)
set_option maxRecDepth 100000 in
theorem zg_zd_X12_layOne_zd_X12_part_187_a : GoodIn zw_zd_X12_layOne [.methodLink RX12 187 yX12_part, .instanceMethod yX12_part, .selects RX12 yX12_part yX12_part, .initialized RX12] := goodIn_r _ [12, 13, 14, 15] rfl (by decide +kernel)
set_option maxRecDepth 100000 in
theorem zg_zd_X12_layOne_zd_X12_part_187_c : GoodIn zw_zd_X12_layOne [.code yX12_part cX12_part 6 none] := goodIn_r _ [3] rfl (by decide +kernel)
set_option maxRecDepth 100000 in
theorem zg_zd_X12_layOne_zd_X12_part_187_0 : GoodIn zw_zd_X12_layOne zw_zd_X12_part_w0 := goodIn_r _ [4, 5, 6, 7, 8, 9, 10, 11] rfl (by decide +kernel)
theorem zg_zd_X12_layOne_zd_X12_part_187 : GoodIn zw_zd_X12_layOne (wsV RX12 187 RX12 yX12_part zw_zd_X12_part) := goodIn_app zg_zd_X12_layOne_zd_X12_part_187_a (goodIn_ca (a := (zw_zd_X12_part_w0)) (show GoodIn zw_zd_X12_layOne (.code yX12_part cX12_part 6 none :: (zw_zd_X12_part_w0)) from goodIn_app zg_zd_X12_layOne_zd_X12_part_187_c (zg_zd_X12_layOne_zd_X12_part_187_0)) (fun w h => ⟨(fun _ h => List.mem_cons_of_mem _ (List.mem_append_right _ h)) w h, good_of_word (List.all_eq_true.mp zgw_X12 w h)⟩))
set_option maxHeartbeats 16000000 in
set_option maxRecDepth 100000 in
theorem zd_X12_layOne (l : Launch) (D : va_G) (cI cZ cP cF : Nat) (h0 : Nat) (q : Nat → Nat) (S : MST) (a1 : Int32) (sz : Nat) (Post : MST → Prop) (h : wp_X12_layOne S a1 Post) : Met l yX12_layOne zw_zd_X12_layOne ({ frames := 1, cells := 0, slots := 0, locals := 25 }) (va_Pc [.ref h0, .int a1] (fun U => U.heap.size = sz ∧ va_P D vwCl (mW cI cZ h0 q S) U.heap ∧ zE D cI cZ cP cF U ∧ va_D (fun _ => True) (mW cI cZ h0 q S))) (va_Qv (fun S' => Post S') (fun (S' : MST) t => va_P D vwCl (mW cI cZ h0 q S') t.heap ∧ va_D (va_A (mW cI cZ h0 q S) sz) (mW cI cZ h0 q S')) (va_A (mW cI cZ h0 q S) sz)) 0 0 (va_A (mW cI cZ h0 q S) sz) := by
  unfold wp_X12_layOne at h
  refine Met.ofW (cc := cX12_layOne) (maxL := 2) (ret := none) (by decide) rfl ?_
  intro p e s m args below meth c s₁ B hml hv
  obtain ⟨rfl, hsz, hP, hE, hD0⟩ := hv
  have hx := B.exec
  have hb := B.bytes
  have hr := B.returns
  have hts := atoms_spec (ws := zw_zd_X12_layOne) B.pre
  have hown : s.vm.findClass RX12 = some m.cls := findClass_of_methodNamed B.named
  have hlocks := B.notSynchronized
  have hK := hE.k
  subst hsz
  have hD := hD0.self (sz := s.heap.size)
  generalize hAe : va_A (mW cI cZ h0 q S) s.heap.size = A at hD ⊢
  have hA : ∀ q : Nat, s.heap.size ≤ q → A q := fun q h => by rw [← hAe]; exact Or.inr h
  have hl := lv_entry ([.ref h0, .int a1]) (n := 2) (Nat.le_of_ble_eq_true rfl)
  rw [lg_entry_eq]
  generalize (lg_sl ([.ref h0, .int a1]) ++ List.replicate (2 - (lg_sl ([.ref h0, .int a1])).length) Slot.unset).toArray = ls at hl ⊢
  have hl : lv_has ls 2 [(0, .ref h0), (1, .int a1)] := hl
  have key : ∀ (H : Heap) (locs : List Loc), va_P D vwCl (mW cI cZ h0 q S) H → va_S A s.heap H locs → W p l e (headSpec zw_zd_X12_layOne ({ frames := 1, cells := 0, slots := 0, locals := 25 })).room s m ([.ref h0, .int a1] : List Value).toArray below meth c H locs 0 0 (MQ below (va_Qv (fun S' => Post S') (fun (S' : MST) t => va_P D vwCl (mW cI cZ h0 q S') t.heap ∧ va_D A (mW cI cZ h0 q S')) A) ([.ref h0, .int a1] : List Value).toArray s 0 0 A) (F0 m 0 ls []) := by
    intro H locs hP hS
    refine lv_aload_n hx hb dX12_layOne_0 rfl (lv_at hl 0 rfl) ?_
    refine va_get (D := D) (ci := 12) (v := .ref (q 35)) (C := RX12) (T := TX12) (N := 52) hx hb hts (fun _ h => List.mem_cons_of_mem _ (List.mem_append_right _ h)) hown hK hP 0 rfl rfl 35 (by decide) (hts (.fieldLink RX12 105 "TemplateForgeModel" "placeKnown" "[Z") (List.mem_of_getElem? (i := 1) rfl)) (fun _ h9 => h9) rfl dX12_layOne_1 ?_
    refine lv_iload_n hx hb dX12_layOne_4 rfl (lv_at hl 1 rfl) ?_
    have hin_1 := h.1
    have h := h.2
    refine va_zald hx hb hK hP 32 1 rfl rfl hin_1 dX12_layOne_5 ?_
    refine lv_if_eq (tgt := 32) hx hb dX12_layOne_6 (by decide) (fun c_2 => ?_) (fun c_2 => ?_)
    · have h := h.1 c_2
      exact W.vret hx hb hr (fun t ht hW => ⟨⟨S, rfl, h, by rw [ht]; exact hP, hD⟩, hS.F ht⟩) hS.2.2 dX12_layOne_32
    · have h := h.2 c_2
      refine lv_aload_n hx hb dX12_layOne_9 rfl (lv_at hl 0 rfl) ?_
      refine lv_iconst (v := 0) hx hb dX12_layOne_10 (by decide) ?_
      refine lv_bipush (v := 7) hx hb dX12_layOne_11 (by decide) ?_
      refine lv_iload_n hx hb dX12_layOne_13 rfl (lv_at hl 1 rfl) ?_
      refine lv_iadd hx hb dX12_layOne_14 ?_
      refine lv_aload_n hx hb dX12_layOne_15 rfl (lv_at hl 0 rfl) ?_
      refine va_get (D := D) (ci := 12) (v := .ref (q 36)) (C := RX12) (T := TX12) (N := 52) hx hb hts (fun _ h => List.mem_cons_of_mem _ (List.mem_append_right _ h)) hown hK hP 0 rfl rfl 36 (by decide) (hts (.fieldLink RX12 108 "TemplateForgeModel" "placeIs" "[I") (List.mem_of_getElem? (i := 2) rfl)) (fun _ h9 => h9) rfl dX12_layOne_16 ?_
      refine lv_iload_n hx hb dX12_layOne_19 rfl (lv_at hl 1 rfl) ?_
      have hin_3 := h.1
      have h := h.2
      refine va_iald hx hb hK hP 33 0 rfl rfl hin_3 dX12_layOne_20 ?_
      refine lv_iconst (v := 0) hx hb dX12_layOne_21 (by decide) ?_
      have hFc := zm_free hD hS hA
      refine va_callv (va_runV (As := [.int 0, .int (7 + a1), .int (S 36 (a1 : Int32).toNatClampNeg), .int 0]) (rest := []) ⟨hx, hb, hml, hown, hts⟩ (zd_X12_part l D cI cZ cP cF h0 q S 0 (7 + a1) (S 36 (a1 : Int32).toNatClampNeg) 0 H.size _ h) (cwV 4 hts zg_zd_X12_layOne_zd_X12_part_187 rfl rfl rfl (by decide +kernel) ⟨Nat.le_of_ble_eq_true rfl, Nat.le_of_ble_eq_true rfl⟩) ⟨zBW, va_recv hK hP (ci := 12) (q0 := 0) rfl rfl, fun U hU hW => ⟨rfl, by rw [hU], by rw [hU]; exact hP, hE.warm hW, hD.weaken (fun _ _ _ _ => trivial)⟩⟩ rfl rfl hl.1 rfl (lv_room (Nat.le_of_ble_eq_true rfl)) dX12_layOne_22 ⟨Nat.le_of_ble_eq_true rfl, Nat.le_of_ble_eq_true rfl⟩) hS (fun q _ h => hFc q h) hFc (fun S4 t H locs ht hvm h hB hz1 hk1 hS => ?_)
      obtain ⟨hP, hD1⟩ := hB
      rw [ht] at hP
      have hD := hD1.weaken (fun k q _ hq => hFc q.1 hq)
      refine lv_aload_n hx hb dX12_layOne_25 rfl (lv_at hl 0 rfl) ?_
      refine va_get (D := D) (ci := 12) (v := .ref (q 35)) (C := RX12) (T := TX12) (N := 52) hx hb hts (fun _ h => List.mem_cons_of_mem _ (List.mem_append_right _ h)) hown hK hP 0 rfl rfl 35 (by decide) (hts (.fieldLink RX12 105 "TemplateForgeModel" "placeKnown" "[Z") (List.mem_of_getElem? (i := 1) rfl)) (fun _ h9 => h9) rfl dX12_layOne_26 ?_
      refine lv_iload_n hx hb dX12_layOne_29 rfl (lv_at hl 1 rfl) ?_
      refine lv_iconst (v := 0) hx hb dX12_layOne_30 (by decide) ?_
      have hin_5 := h.1
      have h := h.2
      refine va_zast hx hb hK hP hD hS 32 1 rfl rfl hin_5 dX12_layOne_31 (fun H locs hP hD hS => ?_)
      obtain ⟨S5, eS5⟩ : ∃ z, z = ms S4 35 (upd (S4 35) (a1 : Int32).toNatClampNeg (vp_nar .boolean 0)) := ⟨_, rfl⟩
      have hP : va_P D vwCl (mW cI cZ h0 q S5) H := by rw [eS5]; exact hP
      have hD : va_D A (mW cI cZ h0 q S5) := by rw [eS5]; exact hD
      have h := h S5 eS5
      exact W.vret hx hb hr (fun t ht hW => ⟨⟨S5, rfl, h, by rw [ht]; exact hP, hD⟩, hS.F ht⟩) hS.2.2 dX12_layOne_32
  exact key _ _ hP va_S.rf
def wl_X12_layAll_2 (K_18 : MST → Prop) (Post : MST → Prop) : Nat → MST → Int32 → Int32 → Prop
  | 0, _, _, _ => False
  | n_2 + 1, S_2, x2_1, x2_2 => ((x2_1 ≤ x2_2) → ((K_18 S_2 ))) ∧ ((¬ (x2_1 ≤ x2_2)) → (wp_X12_layOne S_2 x2_2 (fun S2 => wl_X12_layAll_2 K_18 Post n_2 S2 x2_1 (x2_2 + 1))))
def wp_X12_layAll (S : MST) (a1 : Int32) (Post : MST → Prop) : Prop :=
  ∃ n_2, wl_X12_layAll_2 (fun S_18 => Post S_18) Post n_2 S a1 0
def zw_zd_X12_layAll_w0 : List Cond := [.code yX12_layOne cX12_layOne 2 none, .fieldLink RX12 105 "TemplateForgeModel" "placeKnown" "[Z", .fieldLink RX12 108 "TemplateForgeModel" "placeIs" "[I", .code yX12_part cX12_part 6 none, .fieldLink RX12 181 "TemplateForgeModel" "code" "I", .fieldLink RX12 74 "TemplateForgeModel" "partMany" "[I", .fieldLink RX12 81 "TemplateForgeModel" "partOp" "[I", .fieldLink RX12 84 "TemplateForgeModel" "partD" "[I", .fieldLink RX12 87 "TemplateForgeModel" "partA" "[I", .fieldLink RX12 90 "TemplateForgeModel" "partB" "[I", .fieldLink RX12 93 "TemplateForgeModel" "partOf" "[I", .fieldLink RX12 184 "TemplateForgeModel" "owner" "I", .methodLink RX12 187 yX12_part, .instanceMethod yX12_part, .selects RX12 yX12_part yX12_part, .initialized RX12]
def zw_zd_X12_layAll_w1 : List Cond := [.methodLink RX12 191 yX12_layOne, .instanceMethod yX12_layOne, .selects RX12 yX12_layOne yX12_layOne]
def zw_zd_X12_layAll : List Cond := .code yX12_layAll cX12_layAll 3 none :: ((zw_zd_X12_layAll_w0 ++ (zw_zd_X12_layAll_w1)) ++ wsX120)
set_option maxRecDepth 100000 in
theorem zg_zd_X12_layAll_zd_X12_layOne_191_a : GoodIn zw_zd_X12_layAll [.methodLink RX12 191 yX12_layOne, .instanceMethod yX12_layOne, .selects RX12 yX12_layOne yX12_layOne, .initialized RX12] := goodIn_r _ [17, 18, 19, 16] rfl (by decide +kernel)
set_option maxRecDepth 100000 in
theorem zg_zd_X12_layAll_zd_X12_layOne_191_c : GoodIn zw_zd_X12_layAll [.code yX12_layOne cX12_layOne 2 none] := goodIn_r _ [1] rfl (by decide +kernel)
set_option maxRecDepth 100000 in
theorem zg_zd_X12_layAll_zd_X12_layOne_191_0 : GoodIn zw_zd_X12_layAll zw_zd_X12_layOne_w0 := goodIn_r _ [2, 3, 4, 5, 6, 7, 8, 9, 10, 11, 12, 13, 14, 15, 16] rfl (by decide +kernel)
theorem zg_zd_X12_layAll_zd_X12_layOne_191 : GoodIn zw_zd_X12_layAll (wsV RX12 191 RX12 yX12_layOne zw_zd_X12_layOne) := goodIn_app zg_zd_X12_layAll_zd_X12_layOne_191_a (goodIn_ca (a := (zw_zd_X12_layOne_w0)) (show GoodIn zw_zd_X12_layAll (.code yX12_layOne cX12_layOne 2 none :: (zw_zd_X12_layOne_w0)) from goodIn_app zg_zd_X12_layAll_zd_X12_layOne_191_c (zg_zd_X12_layAll_zd_X12_layOne_191_0)) (fun w h => ⟨(fun _ h => List.mem_cons_of_mem _ (List.mem_append_right _ h)) w h, good_of_word (List.all_eq_true.mp zgw_X12 w h)⟩))
set_option maxHeartbeats 16000000 in
set_option maxRecDepth 100000 in
theorem zd_X12_layAll (l : Launch) (D : va_G) (cI cZ cP cF : Nat) (h0 : Nat) (q : Nat → Nat) (S : MST) (a1 : Int32) (sz : Nat) (Post : MST → Prop) (h : wp_X12_layAll S a1 Post) : Met l yX12_layAll zw_zd_X12_layAll ({ frames := 2, cells := 0, slots := 0, locals := 46 }) (va_Pc [.ref h0, .int a1] (fun U => U.heap.size = sz ∧ va_P D vwCl (mW cI cZ h0 q S) U.heap ∧ zE D cI cZ cP cF U ∧ va_D (fun _ => True) (mW cI cZ h0 q S))) (va_Qv (fun S' => Post S') (fun (S' : MST) t => va_P D vwCl (mW cI cZ h0 q S') t.heap ∧ va_D (va_A (mW cI cZ h0 q S) sz) (mW cI cZ h0 q S')) (va_A (mW cI cZ h0 q S) sz)) 0 0 (va_A (mW cI cZ h0 q S) sz) := by
  unfold wp_X12_layAll at h
  refine Met.ofW (cc := cX12_layAll) (maxL := 3) (ret := none) (by decide) rfl ?_
  intro p e s m args below meth c s₁ B hml hv
  obtain ⟨rfl, hsz, hP, hE, hD0⟩ := hv
  have hx := B.exec
  have hb := B.bytes
  have hr := B.returns
  have hts := atoms_spec (ws := zw_zd_X12_layAll) B.pre
  have hown : s.vm.findClass RX12 = some m.cls := findClass_of_methodNamed B.named
  have hlocks := B.notSynchronized
  have hK := hE.k
  subst hsz
  have hD := hD0.self (sz := s.heap.size)
  generalize hAe : va_A (mW cI cZ h0 q S) s.heap.size = A at hD ⊢
  have hA : ∀ q : Nat, s.heap.size ≤ q → A q := fun q h => by rw [← hAe]; exact Or.inr h
  have hl := lv_entry ([.ref h0, .int a1]) (n := 3) (Nat.le_of_ble_eq_true rfl)
  rw [lg_entry_eq]
  generalize (lg_sl ([.ref h0, .int a1]) ++ List.replicate (3 - (lg_sl ([.ref h0, .int a1])).length) Slot.unset).toArray = ls at hl ⊢
  have hl : lv_has ls 3 [(0, .ref h0), (1, .int a1)] := hl
  have key : ∀ (H : Heap) (locs : List Loc), va_P D vwCl (mW cI cZ h0 q S) H → va_S A s.heap H locs → W p l e (headSpec zw_zd_X12_layAll ({ frames := 2, cells := 0, slots := 0, locals := 46 })).room s m ([.ref h0, .int a1] : List Value).toArray below meth c H locs 0 0 (MQ below (va_Qv (fun S' => Post S') (fun (S' : MST) t => va_P D vwCl (mW cI cZ h0 q S') t.heap ∧ va_D A (mW cI cZ h0 q S')) A) ([.ref h0, .int a1] : List Value).toArray s 0 0 A) (F0 m 0 ls []) := by
    intro H locs hP hS
    refine lv_iconst (v := 0) hx hb dX12_layAll_0 (by decide) ?_
    refine lv_istore_n (lv' := [(2, .int 0), (0, .ref h0), (1, .int a1)]) hx hb dX12_layAll_1 rfl hl (by decide) rfl (fun ls hl => ?_)
    have EX_2_18 : ∀ (S_18 : MST) (H : Heap) (locs : List Loc) (ls : Array Slot), (Post S_18) → va_P D vwCl (mW cI cZ h0 q S_18) H → va_D A (mW cI cZ h0 q S_18) → va_S A s.heap H locs → lv_has ls 3 [] → W p l e (headSpec zw_zd_X12_layAll ({ frames := 2, cells := 0, slots := 0, locals := 46 })).room s m ([.ref h0, .int a1] : List Value).toArray below meth c H locs 0 0 (MQ below (va_Qv (fun S' => Post S') (fun (S' : MST) t => va_P D vwCl (mW cI cZ h0 q S') t.heap ∧ va_D A (mW cI cZ h0 q S')) A) ([.ref h0, .int a1] : List Value).toArray s 0 0 A) (F0 m 18 ls []) := by
      intro S_18  H locs ls h hP hD hS hl
      exact W.vret hx hb hr (fun t ht hW => ⟨⟨S_18, rfl, h, by rw [ht]; exact hP, hD⟩, hS.F ht⟩) hS.2.2 dX12_layAll_18
    have LP_2 : ∀ (n_2 : Nat), ∀ (S_2 : MST) (x2_1 : Int32) (x2_2 : Int32) (H : Heap) (locs : List Loc) (ls : Array Slot), wl_X12_layAll_2 (fun S_18 => Post S_18) Post n_2 S_2 x2_1 x2_2 → va_P D vwCl (mW cI cZ h0 q S_2) H → va_D A (mW cI cZ h0 q S_2) → va_S A s.heap H locs → lv_has ls 3 [(0, .ref h0), (1, .int x2_1), (2, .int x2_2)] → W p l e (headSpec zw_zd_X12_layAll ({ frames := 2, cells := 0, slots := 0, locals := 46 })).room s m ([.ref h0, .int a1] : List Value).toArray below meth c H locs 0 0 (MQ below (va_Qv (fun S' => Post S') (fun (S' : MST) t => va_P D vwCl (mW cI cZ h0 q S') t.heap ∧ va_D A (mW cI cZ h0 q S')) A) ([.ref h0, .int a1] : List Value).toArray s 0 0 A) (F0 m 2 ls []) := by
      intro n_2
      induction n_2 with
      | zero =>
        intro S_2 x2_1 x2_2 H locs ls h hP hD hS hl
        exact False.elim h
      | succ n_2 ih_2 =>
        intro S_2 x2_1 x2_2 H locs ls h hP hD hS hl
        unfold wl_X12_layAll_2 at h
        refine lv_iload_n hx hb dX12_layAll_2 rfl (lv_at hl 2 rfl) ?_
        refine lv_iload_n hx hb dX12_layAll_3 rfl (lv_at hl 1 rfl) ?_
        refine lv_icmp_ge (tgt := 18) hx hb dX12_layAll_4 (by decide) (fun c_1 => ?_) (fun c_1 => ?_)
        · have h := h.1 c_1
          exact EX_2_18  S_2  H locs _ h hP hD hS (lv_sub hl [] rfl)
        · have h := h.2 c_1
          refine lv_aload_n hx hb dX12_layAll_7 rfl (lv_at hl 0 rfl) ?_
          refine lv_iload_n hx hb dX12_layAll_8 rfl (lv_at hl 2 rfl) ?_
          have hFc := zm_free hD hS hA
          refine va_callv (va_runV (As := [.int x2_2]) (rest := []) ⟨hx, hb, hml, hown, hts⟩ (zd_X12_layOne l D cI cZ cP cF h0 q S_2 x2_2 H.size _ h) (cwV 1 hts zg_zd_X12_layAll_zd_X12_layOne_191 rfl rfl rfl (by decide +kernel) ⟨Nat.le_of_ble_eq_true rfl, Nat.le_of_ble_eq_true rfl⟩) ⟨zBW, va_recv hK hP (ci := 12) (q0 := 0) rfl rfl, fun U hU hW => ⟨rfl, by rw [hU], by rw [hU]; exact hP, hE.warm hW, hD.weaken (fun _ _ _ _ => trivial)⟩⟩ rfl rfl hl.1 rfl (lv_room (Nat.le_of_ble_eq_true rfl)) dX12_layAll_9 ⟨Nat.le_of_ble_eq_true rfl, Nat.le_of_ble_eq_true rfl⟩) hS (fun q _ h => hFc q h) hFc (fun S2 t H locs ht hvm h hB hz1 hk1 hS => ?_)
          obtain ⟨hP, hD1⟩ := hB
          rw [ht] at hP
          have hD := hD1.weaken (fun k q _ hq => hFc q.1 hq)
          refine lv_iinc (v := x2_2 + 1) (lv' := [(2, .int (x2_2 + 1)), (0, .ref h0), (1, .int x2_1)]) hx hb dX12_layAll_12 hl (k := 2) rfl rfl (by decide) rfl (fun ls hl => ?_)
          refine lv_goto (tgt := 2) hx hb dX12_layAll_15 (by decide) ?_
          exact ih_2  S2 x2_1 (x2_2 + 1) H locs _ h hP hD hS (lv_sub hl [1, 2, 0] rfl)
    obtain ⟨n_2, h⟩ := h
    exact LP_2 n_2 S a1 0 H locs _ h hP hD hS (lv_sub hl [1, 2, 0] rfl)
  exact key _ _ hP va_S.rf
def wp_X12_knows (S : MST) (a1 : Int32) (a2 : Int32) (Post : MST → Prop) : Prop :=
  vp_in a1 9 ∧ (∀ S1 : MST, S1 = ms S 35 (upd (S 35) (a1 : Int32).toNatClampNeg (vp_nar .boolean 1)) → (vp_in a1 9 ∧ (∀ S2 : MST, S2 = ms S1 36 (upd (S1 36) (a1 : Int32).toNatClampNeg a2) → (Post S2))))
def zw_zd_X12_knows_w0 : List Cond := [.fieldLink RX12 105 "TemplateForgeModel" "placeKnown" "[Z", .fieldLink RX12 108 "TemplateForgeModel" "placeIs" "[I"]
def zw_zd_X12_knows : List Cond := .code yX12_knows cX12_knows 3 none :: ((zw_zd_X12_knows_w0) ++ wsX120)
set_option maxHeartbeats 16000000 in
set_option maxRecDepth 100000 in
theorem zd_X12_knows (l : Launch) (D : va_G) (cI cZ cP cF : Nat) (h0 : Nat) (q : Nat → Nat) (S : MST) (a1 : Int32) (a2 : Int32) (sz : Nat) (Post : MST → Prop) (h : wp_X12_knows S a1 a2 Post) : Met l yX12_knows zw_zd_X12_knows ({ frames := 0, cells := 0, slots := 0, locals := 0 }) (va_Pc [.ref h0, .int a1, .int a2] (fun U => U.heap.size = sz ∧ va_P D vwCl (mW cI cZ h0 q S) U.heap ∧ zE D cI cZ cP cF U ∧ va_D (fun _ => True) (mW cI cZ h0 q S))) (va_Qv (fun S' => Post S') (fun (S' : MST) t => va_P D vwCl (mW cI cZ h0 q S') t.heap ∧ va_D (va_A (mW cI cZ h0 q S) sz) (mW cI cZ h0 q S')) (va_A (mW cI cZ h0 q S) sz)) 0 0 (va_A (mW cI cZ h0 q S) sz) := by
  unfold wp_X12_knows at h
  refine Met.ofW (cc := cX12_knows) (maxL := 3) (ret := none) (by decide) rfl ?_
  intro p e s m args below meth c s₁ B hml hv
  obtain ⟨rfl, hsz, hP, hE, hD0⟩ := hv
  have hx := B.exec
  have hb := B.bytes
  have hr := B.returns
  have hts := atoms_spec (ws := zw_zd_X12_knows) B.pre
  have hown : s.vm.findClass RX12 = some m.cls := findClass_of_methodNamed B.named
  have hlocks := B.notSynchronized
  have hK := hE.k
  subst hsz
  have hD := hD0.self (sz := s.heap.size)
  generalize hAe : va_A (mW cI cZ h0 q S) s.heap.size = A at hD ⊢
  have hA : ∀ q : Nat, s.heap.size ≤ q → A q := fun q h => by rw [← hAe]; exact Or.inr h
  have hl := lv_entry ([.ref h0, .int a1, .int a2]) (n := 3) (Nat.le_of_ble_eq_true rfl)
  rw [lg_entry_eq]
  generalize (lg_sl ([.ref h0, .int a1, .int a2]) ++ List.replicate (3 - (lg_sl ([.ref h0, .int a1, .int a2])).length) Slot.unset).toArray = ls at hl ⊢
  have hl : lv_has ls 3 [(0, .ref h0), (1, .int a1), (2, .int a2)] := hl
  have key : ∀ (H : Heap) (locs : List Loc), va_P D vwCl (mW cI cZ h0 q S) H → va_S A s.heap H locs → W p l e (headSpec zw_zd_X12_knows ({ frames := 0, cells := 0, slots := 0, locals := 0 })).room s m ([.ref h0, .int a1, .int a2] : List Value).toArray below meth c H locs 0 0 (MQ below (va_Qv (fun S' => Post S') (fun (S' : MST) t => va_P D vwCl (mW cI cZ h0 q S') t.heap ∧ va_D A (mW cI cZ h0 q S')) A) ([.ref h0, .int a1, .int a2] : List Value).toArray s 0 0 A) (F0 m 0 ls []) := by
    intro H locs hP hS
    refine lv_aload_n hx hb dX12_knows_0 rfl (lv_at hl 0 rfl) ?_
    refine va_get (D := D) (ci := 12) (v := .ref (q 35)) (C := RX12) (T := TX12) (N := 52) hx hb hts (fun _ h => List.mem_cons_of_mem _ (List.mem_append_right _ h)) hown hK hP 0 rfl rfl 35 (by decide) (hts (.fieldLink RX12 105 "TemplateForgeModel" "placeKnown" "[Z") (List.mem_of_getElem? (i := 1) rfl)) (fun _ h9 => h9) rfl dX12_knows_1 ?_
    refine lv_iload_n hx hb dX12_knows_4 rfl (lv_at hl 1 rfl) ?_
    refine lv_iconst (v := 1) hx hb dX12_knows_5 (by decide) ?_
    have hin_1 := h.1
    have h := h.2
    refine va_zast hx hb hK hP hD hS 32 1 rfl rfl hin_1 dX12_knows_6 (fun H locs hP hD hS => ?_)
    obtain ⟨S1, eS1⟩ : ∃ z, z = ms S 35 (upd (S 35) (a1 : Int32).toNatClampNeg (vp_nar .boolean 1)) := ⟨_, rfl⟩
    have hP : va_P D vwCl (mW cI cZ h0 q S1) H := by rw [eS1]; exact hP
    have hD : va_D A (mW cI cZ h0 q S1) := by rw [eS1]; exact hD
    have h := h S1 eS1
    refine lv_aload_n hx hb dX12_knows_7 rfl (lv_at hl 0 rfl) ?_
    refine va_get (D := D) (ci := 12) (v := .ref (q 36)) (C := RX12) (T := TX12) (N := 52) hx hb hts (fun _ h => List.mem_cons_of_mem _ (List.mem_append_right _ h)) hown hK hP 0 rfl rfl 36 (by decide) (hts (.fieldLink RX12 108 "TemplateForgeModel" "placeIs" "[I") (List.mem_of_getElem? (i := 2) rfl)) (fun _ h9 => h9) rfl dX12_knows_8 ?_
    refine lv_iload_n hx hb dX12_knows_11 rfl (lv_at hl 1 rfl) ?_
    refine lv_iload_n hx hb dX12_knows_12 rfl (lv_at hl 2 rfl) ?_
    have hin_2 := h.1
    have h := h.2
    refine va_iast hx hb hK hP hD hS 33 0 rfl rfl hin_2 dX12_knows_13 (fun H locs hP hD hS => ?_)
    obtain ⟨S2, eS2⟩ : ∃ z, z = ms S1 36 (upd (S1 36) (a1 : Int32).toNatClampNeg a2) := ⟨_, rfl⟩
    have hP : va_P D vwCl (mW cI cZ h0 q S2) H := by rw [eS2]; exact hP
    have hD : va_D A (mW cI cZ h0 q S2) := by rw [eS2]; exact hD
    have h := h S2 eS2
    exact W.vret hx hb hr (fun t ht hW => ⟨⟨S2, rfl, h, by rw [ht]; exact hP, hD⟩, hS.F ht⟩) hS.2.2 dX12_knows_14
  exact key _ _ hP va_S.rf
