def wp_X12_returns (S : MST) (a1 : Int32) (Post : MST → Prop) : Prop :=
  ∀ S1 : MST, S1 = ms S 37 (fun _ => (S 37 0) - 1) → (((¬ (((S1 37 0) : Int32) = 0)) → (vp_in ((S1 37 0) - 1) 16 ∧ (((0 ≤ (S1 40 ((S1 37 0) - 1 : Int32).toNatClampNeg)) → (vp_in ((S1 37 0) - 1) 16 ∧ (vp_in ((S1 37 0) - 1) 16 ∧ (vp_in ((640 * (S1 40 ((S1 37 0) - 1 : Int32).toNatClampNeg)) + (S1 39 ((S1 37 0) - 1 : Int32).toNatClampNeg)) 61440 ∧ (vp_in ((15 * ((S1 37 0) - 1)) + (S1 26 ((640 * (S1 40 ((S1 37 0) - 1 : Int32).toNatClampNeg)) + (S1 39 ((S1 37 0) - 1 : Int32).toNatClampNeg) : Int32).toNatClampNeg)) 240 ∧ (∀ S8 : MST, S8 = ms S1 42 (upd (S1 42) ((15 * ((S1 37 0) - 1)) + (S1 26 ((640 * (S1 40 ((S1 37 0) - 1 : Int32).toNatClampNeg)) + (S1 39 ((S1 37 0) - 1 : Int32).toNatClampNeg) : Int32).toNatClampNeg) : Int32).toNatClampNeg a1) → (vp_in ((S1 37 0) - 1) 16 ∧ (vp_in ((S1 37 0) - 1) 16 ∧ (∀ S10 : MST, S10 = ms S8 39 (upd (S8 39) ((S1 37 0) - 1 : Int32).toNatClampNeg ((S8 39 ((S1 37 0) - 1 : Int32).toNatClampNeg) + 1)) → (Post S10)))))))))) ∧ ((¬ (0 ≤ (S1 40 ((S1 37 0) - 1 : Int32).toNatClampNeg))) → (vp_in ((S1 37 0) - 1) 16 ∧ (vp_in ((S1 37 0) - 1) 16 ∧ (vp_in ((60 * (S1 38 ((S1 37 0) - 1 : Int32).toNatClampNeg)) + (S1 39 ((S1 37 0) - 1 : Int32).toNatClampNeg)) 480 ∧ (vp_in ((S1 37 0) - 1) 16 ∧ (vp_in (S1 5 ((60 * (S1 38 ((S1 37 0) - 1 : Int32).toNatClampNeg)) + (S1 39 ((S1 37 0) - 1 : Int32).toNatClampNeg) : Int32).toNatClampNeg) 8 ∧ (vp_in ((S1 37 0) - 1) 16 ∧ (∀ S16 : MST, S16 = ms S1 41 (upd (S1 41) ((S1 37 0) - 1 : Int32).toNatClampNeg ((S1 41 ((S1 37 0) - 1 : Int32).toNatClampNeg) - (S1 1 (S1 5 ((60 * (S1 38 ((S1 37 0) - 1 : Int32).toNatClampNeg)) + (S1 39 ((S1 37 0) - 1 : Int32).toNatClampNeg) : Int32).toNatClampNeg : Int32).toNatClampNeg))) → (vp_in ((S1 37 0) - 1) 16 ∧ (vp_in (((15 * ((S1 37 0) - 1)) + 7) + (S16 41 ((S1 37 0) - 1 : Int32).toNatClampNeg)) 240 ∧ (∀ S18 : MST, S18 = ms S16 42 (upd (S16 42) (((15 * ((S1 37 0) - 1)) + 7) + (S16 41 ((S1 37 0) - 1 : Int32).toNatClampNeg) : Int32).toNatClampNeg a1) → (vp_in ((S1 37 0) - 1) 16 ∧ (vp_in ((S1 37 0) - 1) 16 ∧ (∀ S20 : MST, S20 = ms S18 41 (upd (S18 41) ((S1 37 0) - 1 : Int32).toNatClampNeg ((S18 41 ((S1 37 0) - 1 : Int32).toNatClampNeg) + 1)) → (vp_in ((S1 37 0) - 1) 16 ∧ (∀ S21 : MST, S21 = ms S20 39 (upd (S20 39) ((S1 37 0) - 1 : Int32).toNatClampNeg ((S1 39 ((S1 37 0) - 1 : Int32).toNatClampNeg) + 1)) → (Post S21)))))))))))))))))))) ∧ ((((S1 37 0) : Int32) = 0) → (∀ S22 : MST, S22 = ms S1 49 (fun _ => a1) → (∀ S23 : MST, S23 = ms S22 43 (fun _ => 2) → (Post S23)))))
def zw_zd_X12_returns_w0 : List Cond := [.fieldLink RX12 236 "TemplateForgeModel" "open" "I", .fieldLink RX12 117 "TemplateForgeModel" "frameCode" "[I", .fieldLink RX12 114 "TemplateForgeModel" "frameAt" "[I", .fieldLink RX12 123 "TemplateForgeModel" "register" "[I", .fieldLink RX12 84 "TemplateForgeModel" "partD" "[I", .fieldLink RX12 22 "TemplateForgeModel" "operand" "[I", .fieldLink RX12 111 "TemplateForgeModel" "frameMethod" "[I", .fieldLink RX12 120 "TemplateForgeModel" "frameDepth" "[I", .fieldLink RX12 7 "TemplateForgeModel" "args" "[I", .fieldLink RX12 259 "TemplateForgeModel" "answer" "I", .fieldLink RX12 233 "TemplateForgeModel" "outcome" "I"]
def zw_zd_X12_returns : List Cond := .code yX12_returns cX12_returns 5 none :: ((zw_zd_X12_returns_w0) ++ wsX120)
set_option maxHeartbeats 16000000 in
set_option maxRecDepth 100000 in
theorem zd_X12_returns (l : Launch) (D : va_G) (cI cZ cP cF : Nat) (h0 : Nat) (q : Nat → Nat) (S : MST) (a1 : Int32) (sz : Nat) (Post : MST → Prop) (h : wp_X12_returns S a1 Post) : Met l yX12_returns zw_zd_X12_returns ({ frames := 0, cells := 0, slots := 0, locals := 0 }) (va_Pc [.ref h0, .int a1] (fun U => U.heap.size = sz ∧ va_P D vwCl (mW cI cZ h0 q S) U.heap ∧ zE D cI cZ cP cF U ∧ va_D (fun _ => True) (mW cI cZ h0 q S))) (va_Qv (fun S' => Post S') (fun (S' : MST) t => va_P D vwCl (mW cI cZ h0 q S') t.heap ∧ va_D (va_A (mW cI cZ h0 q S) sz) (mW cI cZ h0 q S')) (va_A (mW cI cZ h0 q S) sz)) 0 0 (va_A (mW cI cZ h0 q S) sz) := by
  unfold wp_X12_returns at h
  refine Met.ofW (cc := cX12_returns) (maxL := 5) (ret := none) (by decide) rfl ?_
  intro p e s m args below meth c s₁ B hml hv
  obtain ⟨rfl, hsz, hP, hE, hD0⟩ := hv
  have hx := B.exec
  have hb := B.bytes
  have hr := B.returns
  have hts := atoms_spec (ws := zw_zd_X12_returns) B.pre
  have hown : s.vm.findClass RX12 = some m.cls := findClass_of_methodNamed B.named
  have hlocks := B.notSynchronized
  have hK := hE.k
  subst hsz
  have hD := hD0.self (sz := s.heap.size)
  generalize hAe : va_A (mW cI cZ h0 q S) s.heap.size = A at hD ⊢
  have hA : ∀ q : Nat, s.heap.size ≤ q → A q := fun q h => by rw [← hAe]; exact Or.inr h
  have hl := lv_entry ([.ref h0, .int a1]) (n := 5) (Nat.le_of_ble_eq_true rfl)
  rw [lg_entry_eq]
  generalize (lg_sl ([.ref h0, .int a1]) ++ List.replicate (5 - (lg_sl ([.ref h0, .int a1])).length) Slot.unset).toArray = ls at hl ⊢
  have hl : lv_has ls 5 [(0, .ref h0), (1, .int a1)] := hl
  have key : ∀ (H : Heap) (locs : List Loc), va_P D vwCl (mW cI cZ h0 q S) H → va_S A s.heap H locs → W p l e (headSpec zw_zd_X12_returns ({ frames := 0, cells := 0, slots := 0, locals := 0 })).room s m ([.ref h0, .int a1] : List Value).toArray below meth c H locs 0 0 (MQ below (va_Qv (fun S' => Post S') (fun (S' : MST) t => va_P D vwCl (mW cI cZ h0 q S') t.heap ∧ va_D A (mW cI cZ h0 q S')) A) ([.ref h0, .int a1] : List Value).toArray s 0 0 A) (F0 m 0 ls []) := by
    intro H locs hP hS
    refine lv_aload_n hx hb dX12_returns_0 rfl (lv_at hl 0 rfl) ?_
    refine lv_dup hx hb dX12_returns_1 rfl ?_
    refine va_get (D := D) (ci := 12) (v := .int (S 37 0)) (C := RX12) (T := TX12) (N := 52) hx hb hts (fun _ h => List.mem_cons_of_mem _ (List.mem_append_right _ h)) hown hK hP 0 rfl rfl 37 (by decide) (hts (.fieldLink RX12 236 "TemplateForgeModel" "open" "I") (List.mem_of_getElem? (i := 1) rfl)) (fun _ h9 => h9) rfl dX12_returns_2 ?_
    refine lv_iconst (v := 1) hx hb dX12_returns_5 (by decide) ?_
    refine lv_isub hx hb dX12_returns_6 ?_
    refine va_put (D := D) (ci := 12) (v := .int ((S 37 0) - 1)) (ty := .int) (C := RX12) (T := TX12) (N := 52) hx hb hts (fun _ h => List.mem_cons_of_mem _ (List.mem_append_right _ h)) tyX12 tyX12_ok nmX12 hown hK hP hD hS 0 rfl rfl 37 (by decide) (hts (.fieldLink RX12 236 "TemplateForgeModel" "open" "I") (List.mem_of_getElem? (i := 1) rfl)) (fun _ h9 => h9) rfl (by decide +kernel) rfl rfl (Nat.le_of_ble_eq_true rfl) dX12_returns_7 (fun H locs hP hD hS => ?_)
    obtain ⟨S1, eS1⟩ : ∃ z, z = ms S 37 (fun _ => (S 37 0) - 1) := ⟨_, rfl⟩
    have hP : va_P D vwCl (mW cI cZ h0 q S1) H := by rw [eS1]; exact hP
    have hD : va_D A (mW cI cZ h0 q S1) := by rw [eS1]; exact hD
    have h := h S1 eS1
    refine lv_aload_n hx hb dX12_returns_10 rfl (lv_at hl 0 rfl) ?_
    refine va_get (D := D) (ci := 12) (v := .int (S1 37 0)) (C := RX12) (T := TX12) (N := 52) hx hb hts (fun _ h => List.mem_cons_of_mem _ (List.mem_append_right _ h)) hown hK hP 0 rfl rfl 37 (by decide) (hts (.fieldLink RX12 236 "TemplateForgeModel" "open" "I") (List.mem_of_getElem? (i := 1) rfl)) (fun _ h9 => h9) rfl dX12_returns_11 ?_
    refine lv_if_ne (tgt := 28) hx hb dX12_returns_14 (by decide) (fun c_2 => ?_) (fun c_2 => ?_)
    · have h := h.1 c_2
      refine lv_aload_n hx hb dX12_returns_28 rfl (lv_at hl 0 rfl) ?_
      refine va_get (D := D) (ci := 12) (v := .int (S1 37 0)) (C := RX12) (T := TX12) (N := 52) hx hb hts (fun _ h => List.mem_cons_of_mem _ (List.mem_append_right _ h)) hown hK hP 0 rfl rfl 37 (by decide) (hts (.fieldLink RX12 236 "TemplateForgeModel" "open" "I") (List.mem_of_getElem? (i := 1) rfl)) (fun _ h9 => h9) rfl dX12_returns_29 ?_
      refine lv_iconst (v := 1) hx hb dX12_returns_32 (by decide) ?_
      refine lv_isub hx hb dX12_returns_33 ?_
      refine lv_istore_n (lv' := [(2, .int ((S1 37 0) - 1)), (0, .ref h0), (1, .int a1)]) hx hb dX12_returns_34 rfl hl (by decide) rfl (fun ls hl => ?_)
      refine lv_aload_n hx hb dX12_returns_35 rfl (lv_at hl 1 rfl) ?_
      refine va_get (D := D) (ci := 12) (v := .ref (q 40)) (C := RX12) (T := TX12) (N := 52) hx hb hts (fun _ h => List.mem_cons_of_mem _ (List.mem_append_right _ h)) hown hK hP 0 rfl rfl 40 (by decide) (hts (.fieldLink RX12 117 "TemplateForgeModel" "frameCode" "[I") (List.mem_of_getElem? (i := 2) rfl)) (fun _ h9 => h9) rfl dX12_returns_36 ?_
      refine lv_iload_n hx hb dX12_returns_39 rfl (lv_at hl 0 rfl) ?_
      have hin_3 := h.1
      have h := h.2
      refine va_iald hx hb hK hP 36 0 rfl rfl hin_3 dX12_returns_40 ?_
      refine lv_if_ge (tgt := 127) hx hb dX12_returns_41 (by decide) (fun c_4 => ?_) (fun c_4 => ?_)
      · have h := h.1 c_4
        refine lv_sipush (v := 640) hx hb dX12_returns_127 (by decide) ?_
        refine lv_aload_n hx hb dX12_returns_130 rfl (lv_at hl 1 rfl) ?_
        refine va_get (D := D) (ci := 12) (v := .ref (q 40)) (C := RX12) (T := TX12) (N := 52) hx hb hts (fun _ h => List.mem_cons_of_mem _ (List.mem_append_right _ h)) hown hK hP 0 rfl rfl 40 (by decide) (hts (.fieldLink RX12 117 "TemplateForgeModel" "frameCode" "[I") (List.mem_of_getElem? (i := 2) rfl)) (fun _ h9 => h9) rfl dX12_returns_131 ?_
        refine lv_iload_n hx hb dX12_returns_134 rfl (lv_at hl 0 rfl) ?_
        have hin_5 := h.1
        have h := h.2
        refine va_iald hx hb hK hP 36 0 rfl rfl hin_5 dX12_returns_135 ?_
        refine lv_imul hx hb dX12_returns_136 ?_
        refine lv_aload_n hx hb dX12_returns_137 rfl (lv_at hl 1 rfl) ?_
        refine va_get (D := D) (ci := 12) (v := .ref (q 39)) (C := RX12) (T := TX12) (N := 52) hx hb hts (fun _ h => List.mem_cons_of_mem _ (List.mem_append_right _ h)) hown hK hP 0 rfl rfl 39 (by decide) (hts (.fieldLink RX12 114 "TemplateForgeModel" "frameAt" "[I") (List.mem_of_getElem? (i := 3) rfl)) (fun _ h9 => h9) rfl dX12_returns_138 ?_
        refine lv_iload_n hx hb dX12_returns_141 rfl (lv_at hl 0 rfl) ?_
        have hin_6 := h.1
        have h := h.2
        refine va_iald hx hb hK hP 35 0 rfl rfl hin_6 dX12_returns_142 ?_
        refine lv_iadd hx hb dX12_returns_143 ?_
        refine lv_istore_n (lv' := [(3, .int ((640 * (S1 40 ((S1 37 0) - 1 : Int32).toNatClampNeg)) + (S1 39 ((S1 37 0) - 1 : Int32).toNatClampNeg))), (2, .int ((S1 37 0) - 1)), (0, .ref h0), (1, .int a1)]) hx hb dX12_returns_144 rfl hl (by decide) rfl (fun ls hl => ?_)
        refine lv_aload_n hx hb dX12_returns_145 rfl (lv_at hl 2 rfl) ?_
        refine va_get (D := D) (ci := 12) (v := .ref (q 42)) (C := RX12) (T := TX12) (N := 52) hx hb hts (fun _ h => List.mem_cons_of_mem _ (List.mem_append_right _ h)) hown hK hP 0 rfl rfl 42 (by decide) (hts (.fieldLink RX12 123 "TemplateForgeModel" "register" "[I") (List.mem_of_getElem? (i := 4) rfl)) (fun _ h9 => h9) rfl dX12_returns_146 ?_
        refine lv_bipush (v := 15) hx hb dX12_returns_149 (by decide) ?_
        refine lv_iload_n hx hb dX12_returns_151 rfl (lv_at hl 1 rfl) ?_
        refine lv_imul hx hb dX12_returns_152 ?_
        refine lv_aload_n hx hb dX12_returns_153 rfl (lv_at hl 2 rfl) ?_
        refine va_get (D := D) (ci := 12) (v := .ref (q 26)) (C := RX12) (T := TX12) (N := 52) hx hb hts (fun _ h => List.mem_cons_of_mem _ (List.mem_append_right _ h)) hown hK hP 0 rfl rfl 26 (by decide) (hts (.fieldLink RX12 84 "TemplateForgeModel" "partD" "[I") (List.mem_of_getElem? (i := 5) rfl)) (fun _ h9 => h9) rfl dX12_returns_154 ?_
        refine lv_iload_n hx hb dX12_returns_157 rfl (lv_at hl 0 rfl) ?_
        have hin_7 := h.1
        have h := h.2
        refine va_iald hx hb hK hP 25 0 rfl rfl hin_7 dX12_returns_158 ?_
        refine lv_iadd hx hb dX12_returns_159 ?_
        refine lv_iload_n hx hb dX12_returns_160 rfl (lv_at hl 3 rfl) ?_
        have hin_8 := h.1
        have h := h.2
        refine va_iast hx hb hK hP hD hS 38 0 rfl rfl hin_8 dX12_returns_161 (fun H locs hP hD hS => ?_)
        obtain ⟨S8, eS8⟩ : ∃ z, z = ms S1 42 (upd (S1 42) ((15 * ((S1 37 0) - 1)) + (S1 26 ((640 * (S1 40 ((S1 37 0) - 1 : Int32).toNatClampNeg)) + (S1 39 ((S1 37 0) - 1 : Int32).toNatClampNeg) : Int32).toNatClampNeg) : Int32).toNatClampNeg a1) := ⟨_, rfl⟩
        have hP : va_P D vwCl (mW cI cZ h0 q S8) H := by rw [eS8]; exact hP
        have hD : va_D A (mW cI cZ h0 q S8) := by rw [eS8]; exact hD
        have h := h S8 eS8
        refine lv_aload_n hx hb dX12_returns_162 rfl (lv_at hl 2 rfl) ?_
        refine va_get (D := D) (ci := 12) (v := .ref (q 39)) (C := RX12) (T := TX12) (N := 52) hx hb hts (fun _ h => List.mem_cons_of_mem _ (List.mem_append_right _ h)) hown hK hP 0 rfl rfl 39 (by decide) (hts (.fieldLink RX12 114 "TemplateForgeModel" "frameAt" "[I") (List.mem_of_getElem? (i := 3) rfl)) (fun _ h9 => h9) rfl dX12_returns_163 ?_
        refine lv_iload_n hx hb dX12_returns_166 rfl (lv_at hl 1 rfl) ?_
        refine lv_dup2_11 hx hb dX12_returns_167 rfl rfl ?_
        have hin_9 := h.1
        have h := h.2
        refine va_iald hx hb hK hP 35 0 rfl rfl hin_9 dX12_returns_168 ?_
        refine lv_iconst (v := 1) hx hb dX12_returns_169 (by decide) ?_
        refine lv_iadd hx hb dX12_returns_170 ?_
        have hin_10 := h.1
        have h := h.2
        refine va_iast hx hb hK hP hD hS 35 0 rfl rfl hin_10 dX12_returns_171 (fun H locs hP hD hS => ?_)
        obtain ⟨S10, eS10⟩ : ∃ z, z = ms S8 39 (upd (S8 39) ((S1 37 0) - 1 : Int32).toNatClampNeg ((S8 39 ((S1 37 0) - 1 : Int32).toNatClampNeg) + 1)) := ⟨_, rfl⟩
        have hP : va_P D vwCl (mW cI cZ h0 q S10) H := by rw [eS10]; exact hP
        have hD : va_D A (mW cI cZ h0 q S10) := by rw [eS10]; exact hD
        have h := h S10 eS10
        exact W.vret hx hb hr (fun t ht hW => ⟨⟨S10, rfl, h, by rw [ht]; exact hP, hD⟩, hS.F ht⟩) hS.2.2 dX12_returns_172
      · have h := h.2 c_4
        refine lv_aload_n hx hb dX12_returns_44 rfl (lv_at hl 1 rfl) ?_
        refine va_get (D := D) (ci := 12) (v := .ref (q 39)) (C := RX12) (T := TX12) (N := 52) hx hb hts (fun _ h => List.mem_cons_of_mem _ (List.mem_append_right _ h)) hown hK hP 0 rfl rfl 39 (by decide) (hts (.fieldLink RX12 114 "TemplateForgeModel" "frameAt" "[I") (List.mem_of_getElem? (i := 3) rfl)) (fun _ h9 => h9) rfl dX12_returns_45 ?_
        refine lv_iload_n hx hb dX12_returns_48 rfl (lv_at hl 0 rfl) ?_
        have hin_11 := h.1
        have h := h.2
        refine va_iald hx hb hK hP 35 0 rfl rfl hin_11 dX12_returns_49 ?_
        refine lv_istore_n (lv' := [(3, .int (S1 39 ((S1 37 0) - 1 : Int32).toNatClampNeg)), (2, .int ((S1 37 0) - 1)), (0, .ref h0), (1, .int a1)]) hx hb dX12_returns_50 rfl hl (by decide) rfl (fun ls hl => ?_)
        refine lv_aload_n hx hb dX12_returns_51 rfl (lv_at hl 2 rfl) ?_
        refine va_get (D := D) (ci := 12) (v := .ref (q 5)) (C := RX12) (T := TX12) (N := 52) hx hb hts (fun _ h => List.mem_cons_of_mem _ (List.mem_append_right _ h)) hown hK hP 0 rfl rfl 5 (by decide) (hts (.fieldLink RX12 22 "TemplateForgeModel" "operand" "[I") (List.mem_of_getElem? (i := 6) rfl)) (fun _ h9 => h9) rfl dX12_returns_52 ?_
        refine lv_bipush (v := 60) hx hb dX12_returns_55 (by decide) ?_
        refine lv_aload_n hx hb dX12_returns_57 rfl (lv_at hl 2 rfl) ?_
        refine va_get (D := D) (ci := 12) (v := .ref (q 38)) (C := RX12) (T := TX12) (N := 52) hx hb hts (fun _ h => List.mem_cons_of_mem _ (List.mem_append_right _ h)) hown hK hP 0 rfl rfl 38 (by decide) (hts (.fieldLink RX12 111 "TemplateForgeModel" "frameMethod" "[I") (List.mem_of_getElem? (i := 7) rfl)) (fun _ h9 => h9) rfl dX12_returns_58 ?_
        refine lv_iload_n hx hb dX12_returns_61 rfl (lv_at hl 1 rfl) ?_
        have hin_12 := h.1
        have h := h.2
        refine va_iald hx hb hK hP 34 0 rfl rfl hin_12 dX12_returns_62 ?_
        refine lv_imul hx hb dX12_returns_63 ?_
        refine lv_iload_n hx hb dX12_returns_64 rfl (lv_at hl 0 rfl) ?_
        refine lv_iadd hx hb dX12_returns_65 ?_
        have hin_13 := h.1
        have h := h.2
        refine va_iald hx hb hK hP 5 0 rfl rfl hin_13 dX12_returns_66 ?_
        refine lv_istore (lv' := [(4, .int (S1 5 ((60 * (S1 38 ((S1 37 0) - 1 : Int32).toNatClampNeg)) + (S1 39 ((S1 37 0) - 1 : Int32).toNatClampNeg) : Int32).toNatClampNeg)), (3, .int (S1 39 ((S1 37 0) - 1 : Int32).toNatClampNeg)), (2, .int ((S1 37 0) - 1)), (0, .ref h0), (1, .int a1)]) hx hb dX12_returns_67 hl (by decide) rfl (fun ls hl => ?_)
        refine lv_aload_n hx hb dX12_returns_69 rfl (lv_at hl 3 rfl) ?_
        refine va_get (D := D) (ci := 12) (v := .ref (q 41)) (C := RX12) (T := TX12) (N := 52) hx hb hts (fun _ h => List.mem_cons_of_mem _ (List.mem_append_right _ h)) hown hK hP 0 rfl rfl 41 (by decide) (hts (.fieldLink RX12 120 "TemplateForgeModel" "frameDepth" "[I") (List.mem_of_getElem? (i := 8) rfl)) (fun _ h9 => h9) rfl dX12_returns_70 ?_
        refine lv_iload_n hx hb dX12_returns_73 rfl (lv_at hl 2 rfl) ?_
        refine lv_dup2_11 hx hb dX12_returns_74 rfl rfl ?_
        have hin_14 := h.1
        have h := h.2
        refine va_iald hx hb hK hP 37 0 rfl rfl hin_14 dX12_returns_75 ?_
        refine lv_aload_n hx hb dX12_returns_76 rfl (lv_at hl 3 rfl) ?_
        refine va_get (D := D) (ci := 12) (v := .ref (q 1)) (C := RX12) (T := TX12) (N := 52) hx hb hts (fun _ h => List.mem_cons_of_mem _ (List.mem_append_right _ h)) hown hK hP 0 rfl rfl 1 (by decide) (hts (.fieldLink RX12 7 "TemplateForgeModel" "args" "[I") (List.mem_of_getElem? (i := 9) rfl)) (fun _ h9 => h9) rfl dX12_returns_77 ?_
        refine lv_iload hx hb dX12_returns_80 (lv_at hl 0 rfl) ?_
        have hin_15 := h.1
        have h := h.2
        refine va_iald hx hb hK hP 1 0 rfl rfl hin_15 dX12_returns_82 ?_
        refine lv_isub hx hb dX12_returns_83 ?_
        have hin_16 := h.1
        have h := h.2
        refine va_iast hx hb hK hP hD hS 37 0 rfl rfl hin_16 dX12_returns_84 (fun H locs hP hD hS => ?_)
        obtain ⟨S16, eS16⟩ : ∃ z, z = ms S1 41 (upd (S1 41) ((S1 37 0) - 1 : Int32).toNatClampNeg ((S1 41 ((S1 37 0) - 1 : Int32).toNatClampNeg) - (S1 1 (S1 5 ((60 * (S1 38 ((S1 37 0) - 1 : Int32).toNatClampNeg)) + (S1 39 ((S1 37 0) - 1 : Int32).toNatClampNeg) : Int32).toNatClampNeg : Int32).toNatClampNeg))) := ⟨_, rfl⟩
        have hP : va_P D vwCl (mW cI cZ h0 q S16) H := by rw [eS16]; exact hP
        have hD : va_D A (mW cI cZ h0 q S16) := by rw [eS16]; exact hD
        have h := h S16 eS16
        refine lv_aload_n hx hb dX12_returns_85 rfl (lv_at hl 3 rfl) ?_
        refine va_get (D := D) (ci := 12) (v := .ref (q 42)) (C := RX12) (T := TX12) (N := 52) hx hb hts (fun _ h => List.mem_cons_of_mem _ (List.mem_append_right _ h)) hown hK hP 0 rfl rfl 42 (by decide) (hts (.fieldLink RX12 123 "TemplateForgeModel" "register" "[I") (List.mem_of_getElem? (i := 4) rfl)) (fun _ h9 => h9) rfl dX12_returns_86 ?_
        refine lv_bipush (v := 15) hx hb dX12_returns_89 (by decide) ?_
        refine lv_iload_n hx hb dX12_returns_91 rfl (lv_at hl 2 rfl) ?_
        refine lv_imul hx hb dX12_returns_92 ?_
        refine lv_bipush (v := 7) hx hb dX12_returns_93 (by decide) ?_
        refine lv_iadd hx hb dX12_returns_95 ?_
        refine lv_aload_n hx hb dX12_returns_96 rfl (lv_at hl 3 rfl) ?_
        refine va_get (D := D) (ci := 12) (v := .ref (q 41)) (C := RX12) (T := TX12) (N := 52) hx hb hts (fun _ h => List.mem_cons_of_mem _ (List.mem_append_right _ h)) hown hK hP 0 rfl rfl 41 (by decide) (hts (.fieldLink RX12 120 "TemplateForgeModel" "frameDepth" "[I") (List.mem_of_getElem? (i := 8) rfl)) (fun _ h9 => h9) rfl dX12_returns_97 ?_
        refine lv_iload_n hx hb dX12_returns_100 rfl (lv_at hl 2 rfl) ?_
        have hin_17 := h.1
        have h := h.2
        refine va_iald hx hb hK hP 37 0 rfl rfl hin_17 dX12_returns_101 ?_
        refine lv_iadd hx hb dX12_returns_102 ?_
        refine lv_iload_n hx hb dX12_returns_103 rfl (lv_at hl 4 rfl) ?_
        have hin_18 := h.1
        have h := h.2
        refine va_iast hx hb hK hP hD hS 38 0 rfl rfl hin_18 dX12_returns_104 (fun H locs hP hD hS => ?_)
        obtain ⟨S18, eS18⟩ : ∃ z, z = ms S16 42 (upd (S16 42) (((15 * ((S1 37 0) - 1)) + 7) + (S16 41 ((S1 37 0) - 1 : Int32).toNatClampNeg) : Int32).toNatClampNeg a1) := ⟨_, rfl⟩
        have hP : va_P D vwCl (mW cI cZ h0 q S18) H := by rw [eS18]; exact hP
        have hD : va_D A (mW cI cZ h0 q S18) := by rw [eS18]; exact hD
        have h := h S18 eS18
        refine lv_aload_n hx hb dX12_returns_105 rfl (lv_at hl 3 rfl) ?_
        refine va_get (D := D) (ci := 12) (v := .ref (q 41)) (C := RX12) (T := TX12) (N := 52) hx hb hts (fun _ h => List.mem_cons_of_mem _ (List.mem_append_right _ h)) hown hK hP 0 rfl rfl 41 (by decide) (hts (.fieldLink RX12 120 "TemplateForgeModel" "frameDepth" "[I") (List.mem_of_getElem? (i := 8) rfl)) (fun _ h9 => h9) rfl dX12_returns_106 ?_
        refine lv_iload_n hx hb dX12_returns_109 rfl (lv_at hl 2 rfl) ?_
        refine lv_dup2_11 hx hb dX12_returns_110 rfl rfl ?_
        have hin_19 := h.1
        have h := h.2
        refine va_iald hx hb hK hP 37 0 rfl rfl hin_19 dX12_returns_111 ?_
        refine lv_iconst (v := 1) hx hb dX12_returns_112 (by decide) ?_
        refine lv_iadd hx hb dX12_returns_113 ?_
        have hin_20 := h.1
        have h := h.2
        refine va_iast hx hb hK hP hD hS 37 0 rfl rfl hin_20 dX12_returns_114 (fun H locs hP hD hS => ?_)
        obtain ⟨S20, eS20⟩ : ∃ z, z = ms S18 41 (upd (S18 41) ((S1 37 0) - 1 : Int32).toNatClampNeg ((S18 41 ((S1 37 0) - 1 : Int32).toNatClampNeg) + 1)) := ⟨_, rfl⟩
        have hP : va_P D vwCl (mW cI cZ h0 q S20) H := by rw [eS20]; exact hP
        have hD : va_D A (mW cI cZ h0 q S20) := by rw [eS20]; exact hD
        have h := h S20 eS20
        refine lv_aload_n hx hb dX12_returns_115 rfl (lv_at hl 3 rfl) ?_
        refine va_get (D := D) (ci := 12) (v := .ref (q 39)) (C := RX12) (T := TX12) (N := 52) hx hb hts (fun _ h => List.mem_cons_of_mem _ (List.mem_append_right _ h)) hown hK hP 0 rfl rfl 39 (by decide) (hts (.fieldLink RX12 114 "TemplateForgeModel" "frameAt" "[I") (List.mem_of_getElem? (i := 3) rfl)) (fun _ h9 => h9) rfl dX12_returns_116 ?_
        refine lv_iload_n hx hb dX12_returns_119 rfl (lv_at hl 2 rfl) ?_
        refine lv_iload_n hx hb dX12_returns_120 rfl (lv_at hl 1 rfl) ?_
        refine lv_iconst (v := 1) hx hb dX12_returns_121 (by decide) ?_
        refine lv_iadd hx hb dX12_returns_122 ?_
        have hin_21 := h.1
        have h := h.2
        refine va_iast hx hb hK hP hD hS 35 0 rfl rfl hin_21 dX12_returns_123 (fun H locs hP hD hS => ?_)
        obtain ⟨S21, eS21⟩ : ∃ z, z = ms S20 39 (upd (S20 39) ((S1 37 0) - 1 : Int32).toNatClampNeg ((S1 39 ((S1 37 0) - 1 : Int32).toNatClampNeg) + 1)) := ⟨_, rfl⟩
        have hP : va_P D vwCl (mW cI cZ h0 q S21) H := by rw [eS21]; exact hP
        have hD : va_D A (mW cI cZ h0 q S21) := by rw [eS21]; exact hD
        have h := h S21 eS21
        refine lv_goto (tgt := 172) hx hb dX12_returns_124 (by decide) ?_
        exact W.vret hx hb hr (fun t ht hW => ⟨⟨S21, rfl, h, by rw [ht]; exact hP, hD⟩, hS.F ht⟩) hS.2.2 dX12_returns_172
    · have h := h.2 c_2
      refine lv_aload_n hx hb dX12_returns_17 rfl (lv_at hl 0 rfl) ?_
      refine lv_iload_n hx hb dX12_returns_18 rfl (lv_at hl 1 rfl) ?_
      refine va_put (D := D) (ci := 12) (v := .int a1) (ty := .int) (C := RX12) (T := TX12) (N := 52) hx hb hts (fun _ h => List.mem_cons_of_mem _ (List.mem_append_right _ h)) tyX12 tyX12_ok nmX12 hown hK hP hD hS 0 rfl rfl 49 (by decide) (hts (.fieldLink RX12 259 "TemplateForgeModel" "answer" "I") (List.mem_of_getElem? (i := 10) rfl)) (fun _ h9 => h9) rfl (by decide +kernel) rfl rfl (Nat.le_of_ble_eq_true rfl) dX12_returns_19 (fun H locs hP hD hS => ?_)
      obtain ⟨S22, eS22⟩ : ∃ z, z = ms S1 49 (fun _ => a1) := ⟨_, rfl⟩
      have hP : va_P D vwCl (mW cI cZ h0 q S22) H := by rw [eS22]; exact hP
      have hD : va_D A (mW cI cZ h0 q S22) := by rw [eS22]; exact hD
      have h := h S22 eS22
      refine lv_aload_n hx hb dX12_returns_22 rfl (lv_at hl 0 rfl) ?_
      refine lv_iconst (v := 2) hx hb dX12_returns_23 (by decide) ?_
      refine va_put (D := D) (ci := 12) (v := .int 2) (ty := .int) (C := RX12) (T := TX12) (N := 52) hx hb hts (fun _ h => List.mem_cons_of_mem _ (List.mem_append_right _ h)) tyX12 tyX12_ok nmX12 hown hK hP hD hS 0 rfl rfl 43 (by decide) (hts (.fieldLink RX12 233 "TemplateForgeModel" "outcome" "I") (List.mem_of_getElem? (i := 11) rfl)) (fun _ h9 => h9) rfl (by decide +kernel) rfl rfl (Nat.le_of_ble_eq_true rfl) dX12_returns_24 (fun H locs hP hD hS => ?_)
      obtain ⟨S23, eS23⟩ : ∃ z, z = ms S22 43 (fun _ => 2) := ⟨_, rfl⟩
      have hP : va_P D vwCl (mW cI cZ h0 q S23) H := by rw [eS23]; exact hP
      have hD : va_D A (mW cI cZ h0 q S23) := by rw [eS23]; exact hD
      have h := h S23 eS23
      exact W.vret hx hb hr (fun t ht hW => ⟨⟨S23, rfl, h, by rw [ht]; exact hP, hD⟩, hS.F ht⟩) hS.2.2 dX12_returns_27
  exact key _ _ hP va_S.rf
def wl_X12_makesRow_23 (K_46 : MST → Prop) (Post : MST → Int32 → Prop) : Nat → MST → Int32 → Int32 → Int32 → Prop
  | 0, _, _, _, _ => False
  | n_23 + 1, S_23, x23_1, x23_2, x23_3 => ((x23_2 ≤ x23_3) → ((K_46 S_23 ))) ∧ ((¬ (x23_2 ≤ x23_3)) → (vp_in ((20 * x23_1) + x23_3) 80 ∧ (∀ S5 : MST, S5 = ms S_23 14 (upd (S_23 14) ((20 * x23_1) + x23_3 : Int32).toNatClampNeg 0) → (wl_X12_makesRow_23 K_46 Post n_23 S5 x23_1 x23_2 (x23_3 + 1)))))
def wp_X12_makesRow (S : MST) (a1 : Int32) (a2 : Int32) (Post : MST → Int32 → Prop) : Prop :=
  ((0 ≤ a2) → ((((a2 : Int32) ≤ 20) → (vp_in a1 4 ∧ (∀ S3 : MST, S3 = ms S 13 (upd (S 13) (a1 : Int32).toNatClampNeg a2) → (∃ n_23, wl_X12_makesRow_23 (fun S_46 => Post S_46 0) Post n_23 S3 a1 a2 0)))) ∧ ((¬ ((a2 : Int32) ≤ 20)) → (Post S 5)))) ∧ ((¬ (0 ≤ a2)) → (Post S 4))
def zw_zd_X12_makesRow_w0 : List Cond := [.fieldLink RX12 44 "TemplateForgeModel" "sizes" "[I", .fieldLink RX12 47 "TemplateForgeModel" "rows" "[I"]
def zw_zd_X12_makesRow : List Cond := .code yX12_makesRow cX12_makesRow 4 (some .int) :: ((zw_zd_X12_makesRow_w0) ++ wsX120)
set_option maxHeartbeats 16000000 in
set_option maxRecDepth 100000 in
theorem zd_X12_makesRow (l : Launch) (D : va_G) (cI cZ cP cF : Nat) (h0 : Nat) (q : Nat → Nat) (S : MST) (a1 : Int32) (a2 : Int32) (sz : Nat) (Post : MST → Int32 → Prop) (h : wp_X12_makesRow S a1 a2 Post) : Met l yX12_makesRow zw_zd_X12_makesRow ({ frames := 0, cells := 0, slots := 0, locals := 0 }) (va_Pc [.ref h0, .int a1, .int a2] (fun U => U.heap.size = sz ∧ va_P D vwCl (mW cI cZ h0 q S) U.heap ∧ zE D cI cZ cP cF U ∧ va_D (fun _ => True) (mW cI cZ h0 q S))) (va_Qi (fun r S' => Post S' r) (fun (S' : MST) t => va_P D vwCl (mW cI cZ h0 q S') t.heap ∧ va_D (va_A (mW cI cZ h0 q S) sz) (mW cI cZ h0 q S')) (va_A (mW cI cZ h0 q S) sz)) 0 0 (va_A (mW cI cZ h0 q S) sz) := by
  unfold wp_X12_makesRow at h
  refine Met.ofW (cc := cX12_makesRow) (maxL := 4) (ret := (some .int)) (by decide) rfl ?_
  intro p e s m args below meth c s₁ B hml hv
  obtain ⟨rfl, hsz, hP, hE, hD0⟩ := hv
  have hx := B.exec
  have hb := B.bytes
  have hr := B.returns
  have hts := atoms_spec (ws := zw_zd_X12_makesRow) B.pre
  have hown : s.vm.findClass RX12 = some m.cls := findClass_of_methodNamed B.named
  have hlocks := B.notSynchronized
  have hK := hE.k
  subst hsz
  have hD := hD0.self (sz := s.heap.size)
  generalize hAe : va_A (mW cI cZ h0 q S) s.heap.size = A at hD ⊢
  have hA : ∀ q : Nat, s.heap.size ≤ q → A q := fun q h => by rw [← hAe]; exact Or.inr h
  have hl := lv_entry ([.ref h0, .int a1, .int a2]) (n := 4) (Nat.le_of_ble_eq_true rfl)
  rw [lg_entry_eq]
  generalize (lg_sl ([.ref h0, .int a1, .int a2]) ++ List.replicate (4 - (lg_sl ([.ref h0, .int a1, .int a2])).length) Slot.unset).toArray = ls at hl ⊢
  have hl : lv_has ls 4 [(0, .ref h0), (1, .int a1), (2, .int a2)] := hl
  have key : ∀ (H : Heap) (locs : List Loc), va_P D vwCl (mW cI cZ h0 q S) H → va_S A s.heap H locs → W p l e (headSpec zw_zd_X12_makesRow ({ frames := 0, cells := 0, slots := 0, locals := 0 })).room s m ([.ref h0, .int a1, .int a2] : List Value).toArray below meth c H locs 0 0 (MQ below (va_Qi (fun r S' => Post S' r) (fun (S' : MST) t => va_P D vwCl (mW cI cZ h0 q S') t.heap ∧ va_D A (mW cI cZ h0 q S')) A) ([.ref h0, .int a1, .int a2] : List Value).toArray s 0 0 A) (F0 m 0 ls []) := by
    intro H locs hP hS
    refine lv_iload_n hx hb dX12_makesRow_0 rfl (lv_at hl 2 rfl) ?_
    refine lv_if_ge (tgt := 6) hx hb dX12_makesRow_1 (by decide) (fun c_1 => ?_) (fun c_1 => ?_)
    · have h := h.1 c_1
      refine lv_iload_n hx hb dX12_makesRow_6 rfl (lv_at hl 2 rfl) ?_
      refine lv_bipush (v := 20) hx hb dX12_makesRow_7 (by decide) ?_
      refine lv_icmp_le (tgt := 14) hx hb dX12_makesRow_9 (by decide) (fun c_2 => ?_) (fun c_2 => ?_)
      · have h := h.1 c_2
        refine lv_aload_n hx hb dX12_makesRow_14 rfl (lv_at hl 0 rfl) ?_
        refine va_get (D := D) (ci := 12) (v := .ref (q 13)) (C := RX12) (T := TX12) (N := 52) hx hb hts (fun _ h => List.mem_cons_of_mem _ (List.mem_append_right _ h)) hown hK hP 0 rfl rfl 13 (by decide) (hts (.fieldLink RX12 44 "TemplateForgeModel" "sizes" "[I") (List.mem_of_getElem? (i := 1) rfl)) (fun _ h9 => h9) rfl dX12_makesRow_15 ?_
        refine lv_iload_n hx hb dX12_makesRow_18 rfl (lv_at hl 1 rfl) ?_
        refine lv_iload_n hx hb dX12_makesRow_19 rfl (lv_at hl 2 rfl) ?_
        have hin_3 := h.1
        have h := h.2
        refine va_iast hx hb hK hP hD hS 12 0 rfl rfl hin_3 dX12_makesRow_20 (fun H locs hP hD hS => ?_)
        obtain ⟨S3, eS3⟩ : ∃ z, z = ms S 13 (upd (S 13) (a1 : Int32).toNatClampNeg a2) := ⟨_, rfl⟩
        have hP : va_P D vwCl (mW cI cZ h0 q S3) H := by rw [eS3]; exact hP
        have hD : va_D A (mW cI cZ h0 q S3) := by rw [eS3]; exact hD
        have h := h S3 eS3
        refine lv_iconst (v := 0) hx hb dX12_makesRow_21 (by decide) ?_
        refine lv_istore_n (lv' := [(3, .int 0), (0, .ref h0), (1, .int a1), (2, .int a2)]) hx hb dX12_makesRow_22 rfl hl (by decide) rfl (fun ls hl => ?_)
        have EX_23_46 : ∀ (S_46 : MST) (H : Heap) (locs : List Loc) (ls : Array Slot), (Post S_46 0) → va_P D vwCl (mW cI cZ h0 q S_46) H → va_D A (mW cI cZ h0 q S_46) → va_S A s.heap H locs → lv_has ls 4 [] → W p l e (headSpec zw_zd_X12_makesRow ({ frames := 0, cells := 0, slots := 0, locals := 0 })).room s m ([.ref h0, .int a1, .int a2] : List Value).toArray below meth c H locs 0 0 (MQ below (va_Qi (fun r S' => Post S' r) (fun (S' : MST) t => va_P D vwCl (mW cI cZ h0 q S') t.heap ∧ va_D A (mW cI cZ h0 q S')) A) ([.ref h0, .int a1, .int a2] : List Value).toArray s 0 0 A) (F0 m 46 ls []) := by
          intro S_46  H locs ls h hP hD hS hl
          refine lv_iconst (v := 0) hx hb dX12_makesRow_46 (by decide) ?_
          exact W.iret (v := 0) hx hb hr (fun t ht hW => ⟨⟨_, S_46, rfl, h, by rw [ht]; exact hP, hD⟩, hS.F ht⟩) hS.2.2 dX12_makesRow_47
        have LP_23 : ∀ (n_23 : Nat), ∀ (S_23 : MST) (x23_1 : Int32) (x23_2 : Int32) (x23_3 : Int32) (H : Heap) (locs : List Loc) (ls : Array Slot), wl_X12_makesRow_23 (fun S_46 => Post S_46 0) Post n_23 S_23 x23_1 x23_2 x23_3 → va_P D vwCl (mW cI cZ h0 q S_23) H → va_D A (mW cI cZ h0 q S_23) → va_S A s.heap H locs → lv_has ls 4 [(0, .ref h0), (1, .int x23_1), (2, .int x23_2), (3, .int x23_3)] → W p l e (headSpec zw_zd_X12_makesRow ({ frames := 0, cells := 0, slots := 0, locals := 0 })).room s m ([.ref h0, .int a1, .int a2] : List Value).toArray below meth c H locs 0 0 (MQ below (va_Qi (fun r S' => Post S' r) (fun (S' : MST) t => va_P D vwCl (mW cI cZ h0 q S') t.heap ∧ va_D A (mW cI cZ h0 q S')) A) ([.ref h0, .int a1, .int a2] : List Value).toArray s 0 0 A) (F0 m 23 ls []) := by
          intro n_23
          induction n_23 with
          | zero =>
            intro S_23 x23_1 x23_2 x23_3 H locs ls h hP hD hS hl
            exact False.elim h
          | succ n_23 ih_23 =>
            intro S_23 x23_1 x23_2 x23_3 H locs ls h hP hD hS hl
            unfold wl_X12_makesRow_23 at h
            refine lv_iload_n hx hb dX12_makesRow_23 rfl (lv_at hl 3 rfl) ?_
            refine lv_iload_n hx hb dX12_makesRow_24 rfl (lv_at hl 2 rfl) ?_
            refine lv_icmp_ge (tgt := 46) hx hb dX12_makesRow_25 (by decide) (fun c_4 => ?_) (fun c_4 => ?_)
            · have h := h.1 c_4
              exact EX_23_46  S_23  H locs _ h hP hD hS (lv_sub hl [] rfl)
            · have h := h.2 c_4
              refine lv_aload_n hx hb dX12_makesRow_28 rfl (lv_at hl 0 rfl) ?_
              refine va_get (D := D) (ci := 12) (v := .ref (q 14)) (C := RX12) (T := TX12) (N := 52) hx hb hts (fun _ h => List.mem_cons_of_mem _ (List.mem_append_right _ h)) hown hK hP 0 rfl rfl 14 (by decide) (hts (.fieldLink RX12 47 "TemplateForgeModel" "rows" "[I") (List.mem_of_getElem? (i := 2) rfl)) (fun _ h9 => h9) rfl dX12_makesRow_29 ?_
              refine lv_bipush (v := 20) hx hb dX12_makesRow_32 (by decide) ?_
              refine lv_iload_n hx hb dX12_makesRow_34 rfl (lv_at hl 1 rfl) ?_
              refine lv_imul hx hb dX12_makesRow_35 ?_
              refine lv_iload_n hx hb dX12_makesRow_36 rfl (lv_at hl 3 rfl) ?_
              refine lv_iadd hx hb dX12_makesRow_37 ?_
              refine lv_iconst (v := 0) hx hb dX12_makesRow_38 (by decide) ?_
              have hin_5 := h.1
              have h := h.2
              refine va_iast hx hb hK hP hD hS 13 0 rfl rfl hin_5 dX12_makesRow_39 (fun H locs hP hD hS => ?_)
              obtain ⟨S5, eS5⟩ : ∃ z, z = ms S_23 14 (upd (S_23 14) ((20 * x23_1) + x23_3 : Int32).toNatClampNeg 0) := ⟨_, rfl⟩
              have hP : va_P D vwCl (mW cI cZ h0 q S5) H := by rw [eS5]; exact hP
              have hD : va_D A (mW cI cZ h0 q S5) := by rw [eS5]; exact hD
              have h := h S5 eS5
              refine lv_iinc (v := x23_3 + 1) (lv' := [(3, .int (x23_3 + 1)), (0, .ref h0), (1, .int x23_1), (2, .int x23_2)]) hx hb dX12_makesRow_40 hl (k := 3) rfl rfl (by decide) rfl (fun ls hl => ?_)
              refine lv_goto (tgt := 23) hx hb dX12_makesRow_43 (by decide) ?_
              exact ih_23  S5 x23_1 x23_2 (x23_3 + 1) H locs _ h hP hD hS (lv_sub hl [1, 2, 3, 0] rfl)
        obtain ⟨n_23, h⟩ := h
        exact LP_23 n_23 S3 a1 a2 0 H locs _ h hP hD hS (lv_sub hl [1, 2, 3, 0] rfl)
      · have h := h.2 c_2
        refine lv_iconst (v := 5) hx hb dX12_makesRow_12 (by decide) ?_
        exact W.iret (v := 5) hx hb hr (fun t ht hW => ⟨⟨_, S, rfl, h, by rw [ht]; exact hP, hD⟩, hS.F ht⟩) hS.2.2 dX12_makesRow_13
    · have h := h.2 c_1
      refine lv_iconst (v := 4) hx hb dX12_makesRow_4 (by decide) ?_
      exact W.iret (v := 4) hx hb hr (fun t ht hW => ⟨⟨_, S, rfl, h, by rw [ht]; exact hP, hD⟩, hS.F ht⟩) hS.2.2 dX12_makesRow_5
  exact key _ _ hP va_S.rf
def wp_X12_refuses (S : MST) (a1 : Int32) (a2 : Int32) (Post : Int32 → Prop) : Prop :=
  vp_in a1 4 ∧ (((0 ≤ (S 13 (a1 : Int32).toNatClampNeg)) → (vp_in a1 4 ∧ (wp_X12_in ((a2 : Int32).toInt64) 0 (((S 13 (a1 : Int32).toNatClampNeg) - 1 : Int32).toInt64) (fun r4 => (((r4 : Int32) = 0) → (Post 3)) ∧ ((¬ ((r4 : Int32) = 0)) → (Post 0)))))) ∧ ((¬ (0 ≤ (S 13 (a1 : Int32).toNatClampNeg))) → (Post 2)))
def zw_zd_X12_refuses_w0 : List Cond := [.fieldLink RX12 44 "TemplateForgeModel" "sizes" "[I", .code yX12_in cX12_in 6 (some .boolean), .methodLink RX12 134 yX12_in, .static yX12_in, .initialized RX12]
def zw_zd_X12_refuses : List Cond := .code yX12_refuses cX12_refuses 3 (some .int) :: ((zw_zd_X12_refuses_w0) ++ wsX120)
set_option maxRecDepth 100000 in
theorem zg_zd_X12_refuses_zd_X12_in_134_a : GoodIn zw_zd_X12_refuses [.methodLink RX12 134 yX12_in, .static yX12_in, .initialized RX12] := goodIn_r _ [3, 4, 5] rfl (by decide +kernel)
set_option maxRecDepth 100000 in
theorem zg_zd_X12_refuses_zd_X12_in_134_c : GoodIn zw_zd_X12_refuses [.code yX12_in cX12_in 6 (some .boolean)] := goodIn_r _ [2] rfl (by decide +kernel)
theorem zg_zd_X12_refuses_zd_X12_in_134 : GoodIn zw_zd_X12_refuses (va_wsS RX12 134 yX12_in zw_zd_X12_in) := goodIn_app zg_zd_X12_refuses_zd_X12_in_134_a (show GoodIn zw_zd_X12_refuses (.code yX12_in cX12_in 6 (some .boolean) :: (([] : List Cond))) from zg_zd_X12_refuses_zd_X12_in_134_c)
set_option maxHeartbeats 16000000 in
set_option maxRecDepth 100000 in
theorem zd_X12_refuses (l : Launch) (D : va_G) (cI cZ cP cF : Nat) (h0 : Nat) (q : Nat → Nat) (S : MST) (a1 : Int32) (a2 : Int32) (Post : Int32 → Prop) (h : wp_X12_refuses S a1 a2 Post) : Met l yX12_refuses zw_zd_X12_refuses ({ frames := 1, cells := 0, slots := 0, locals := 25 }) (va_Pc [.ref h0, .int a1, .int a2] (fun U => va_P D vwCl (mW cI cZ h0 q S) U.heap ∧ zE D cI cZ cP cF U)) (vp_Si Post) 0 0 (fun _ => False) := by
  unfold wp_X12_refuses at h
  refine Met.ofW (cc := cX12_refuses) (maxL := 3) (ret := (some .int)) (by decide) rfl ?_
  intro p e s m args below meth c s₁ B hml hv
  obtain ⟨rfl, hP, hE⟩ := hv
  have hx := B.exec
  have hb := B.bytes
  have hr := B.returns
  have hts := atoms_spec (ws := zw_zd_X12_refuses) B.pre
  have hown : s.vm.findClass RX12 = some m.cls := findClass_of_methodNamed B.named
  have hlocks := B.notSynchronized
  have hK := hE.k
  have hl := lv_entry ([.ref h0, .int a1, .int a2]) (n := 3) (Nat.le_of_ble_eq_true rfl)
  rw [lg_entry_eq]
  generalize (lg_sl ([.ref h0, .int a1, .int a2]) ++ List.replicate (3 - (lg_sl ([.ref h0, .int a1, .int a2])).length) Slot.unset).toArray = ls at hl ⊢
  have hl : lv_has ls 3 [(0, .ref h0), (1, .int a1), (2, .int a2)] := hl
  refine lv_aload_n hx hb dX12_refuses_0 rfl (lv_at hl 0 rfl) ?_
  refine va_get (D := D) (ci := 12) (v := .ref (q 13)) (C := RX12) (T := TX12) (N := 52) hx hb hts (fun _ h => List.mem_cons_of_mem _ (List.mem_append_right _ h)) hown hK hP 0 rfl rfl 13 (by decide) (hts (.fieldLink RX12 44 "TemplateForgeModel" "sizes" "[I") (List.mem_of_getElem? (i := 1) rfl)) (fun _ h9 => h9) rfl dX12_refuses_1 ?_
  refine lv_iload_n hx hb dX12_refuses_4 rfl (lv_at hl 1 rfl) ?_
  have hin_1 := h.1
  have h := h.2
  refine va_iald hx hb hK hP 12 0 rfl rfl hin_1 dX12_refuses_5 ?_
  refine lv_if_ge (tgt := 13) hx hb dX12_refuses_6 (by decide) (fun c_2 => ?_) (fun c_2 => ?_)
  · have h := h.1 c_2
    refine lv_iload_n hx hb dX12_refuses_13 rfl (lv_at hl 2 rfl) ?_
    refine lv_i2l (v := (a2 : Int32).toInt64) hx hb dX12_refuses_14 rfl ?_
    refine lv_lconst (v := 0) hx hb dX12_refuses_15 (by decide) ?_
    refine lv_aload_n hx hb dX12_refuses_16 rfl (lv_at hl 0 rfl) ?_
    refine va_get (D := D) (ci := 12) (v := .ref (q 13)) (C := RX12) (T := TX12) (N := 52) hx hb hts (fun _ h => List.mem_cons_of_mem _ (List.mem_append_right _ h)) hown hK hP 0 rfl rfl 13 (by decide) (hts (.fieldLink RX12 44 "TemplateForgeModel" "sizes" "[I") (List.mem_of_getElem? (i := 1) rfl)) (fun _ h9 => h9) rfl dX12_refuses_17 ?_
    refine lv_iload_n hx hb dX12_refuses_20 rfl (lv_at hl 1 rfl) ?_
    have hin_3 := h.1
    have h := h.2
    refine va_iald hx hb hK hP 12 0 rfl rfl hin_3 dX12_refuses_21 ?_
    refine lv_iconst (v := 1) hx hb dX12_refuses_22 (by decide) ?_
    refine lv_isub hx hb dX12_refuses_23 ?_
    refine lv_i2l (v := ((S 13 (a1 : Int32).toNatClampNeg) - 1 : Int32).toInt64) hx hb dX12_refuses_24 rfl ?_
    have hP0 : va_P D vwCl [] s.heap := fun k q h => by simp at h
    refine vp_callSi (va_Run.run (va_runS (As := [.long ((a2 : Int32).toInt64), .long 0, .long (((S 13 (a1 : Int32).toNatClampNeg) - 1 : Int32).toInt64)]) (rest := []) ⟨hx, hb, hml, hown, hts⟩ (zd_X12_in l D cI cZ cP cF ((a2 : Int32).toInt64) 0 (((S 13 (a1 : Int32).toNatClampNeg) - 1 : Int32).toInt64)  _ h) (va_cwS 3 hts zg_zd_X12_refuses_zd_X12_in_134 rfl rfl rfl (by decide +kernel) ⟨Nat.le_of_ble_eq_true rfl, Nat.le_of_ble_eq_true rfl⟩) ⟨zBR, fun U hU hW => ⟨rfl, by rw [hU]; exact hP0, hE.warm hW⟩⟩ rfl rfl hl.1 rfl (lv_room (Nat.le_of_ble_eq_true rfl)) dX12_refuses_25 ⟨Nat.le_of_ble_eq_true rfl, Nat.le_of_ble_eq_true rfl⟩)) (fun r4 h => ?_)
    refine lv_if_eq (tgt := 35) hx hb dX12_refuses_28 (by decide) (fun c_5 => ?_) (fun c_5 => ?_)
    · have h := h.1 c_5
      refine lv_iconst (v := 3) hx hb dX12_refuses_35 (by decide) ?_
      exact W.iret (v := 3) hx hb hr (fun t ht hW => ⟨_, rfl, h, ht⟩) (fun q h => by cases h) dX12_refuses_36
    · have h := h.2 c_5
      refine lv_iconst (v := 0) hx hb dX12_refuses_31 (by decide) ?_
      refine lv_goto (tgt := 36) hx hb dX12_refuses_32 (by decide) ?_
      exact W.iret (v := 0) hx hb hr (fun t ht hW => ⟨_, rfl, h, ht⟩) (fun q h => by cases h) dX12_refuses_36
  · have h := h.2 c_2
    refine lv_iconst (v := 2) hx hb dX12_refuses_9 (by decide) ?_
    refine lv_goto (tgt := 36) hx hb dX12_refuses_10 (by decide) ?_
    exact W.iret (v := 2) hx hb hr (fun t ht hW => ⟨_, rfl, h, ht⟩) (fun q h => by cases h) dX12_refuses_36
def wj_X12_goes_604 (S_604 : MST) (x604_3 : Int32) (x604_9 : Int32) (Post : MST → Prop) : Prop :=
  (((x604_9 : Int32) = 0) → (Post S_604)) ∧ ((¬ ((x604_9 : Int32) = 0)) → (wp_X12_traps S_604 x604_9 x604_3 (fun S2 => Post S2)))
def wj_X12_goes_549 (S_549 : MST) (x549_3 : Int32) (x549_4 : Int32) (x549_6 : Int32) (x549_7 : Int32) (x549_8 : Int32) (Post : MST → Prop) : Prop :=
  ((¬ ((x549_4 : Int32) = 6)) → (vp_in ((x549_6 + x549_7) - 2) 240 ∧ (wp_X12_sumOf x549_4 (S_549 42 ((x549_6 + x549_7) - 2 : Int32).toNatClampNeg) x549_8 (fun r5 => vp_in ((x549_6 + x549_7) - 2) 240 ∧ (∀ S6 : MST, S6 = ms S_549 42 (upd (S_549 42) ((x549_6 + x549_7) - 2 : Int32).toNatClampNeg r5) → (wj_X12_goes_604 S6 x549_3 0 Post)))))) ∧ (((x549_4 : Int32) = 6) → (((¬ ((x549_8 : Int32) = 0)) → (vp_in ((x549_6 + x549_7) - 2) 240 ∧ (wp_X12_sumOf x549_4 (S_549 42 ((x549_6 + x549_7) - 2 : Int32).toNatClampNeg) x549_8 (fun r9 => vp_in ((x549_6 + x549_7) - 2) 240 ∧ (∀ S10 : MST, S10 = ms S_549 42 (upd (S_549 42) ((x549_6 + x549_7) - 2 : Int32).toNatClampNeg r9) → (wj_X12_goes_604 S10 x549_3 0 Post)))))) ∧ (((x549_8 : Int32) = 0) → (wj_X12_goes_604 S_549 x549_3 1 Post))))
def wj_X12_goes_134 (S_134 : MST) (x134_1 : Int32) (x134_3 : Int32) (x134_4 : Int32) (x134_5 : Int32) (x134_6 : Int32) (x134_7 : Int32) (x134_8 : Int32) (x134_9 : Int32) (Post : MST → Prop) : Prop :=
  ((x134_4 : Int32).toInt < 0 ∨ 19 < (x134_4 : Int32).toInt → (wj_X12_goes_549 S_134 x134_3 x134_4 x134_6 x134_7 x134_8 Post)) ∧ (x134_4 = 0 → (vp_in (x134_6 + x134_7) 240 ∧ (∀ S11 : MST, S11 = ms S_134 42 (upd (S_134 42) (x134_6 + x134_7 : Int32).toNatClampNeg x134_5) → (wj_X12_goes_604 S11 x134_3 x134_9 Post)))) ∧ (x134_4 = 1 → (vp_in ((15 * x134_1) + x134_5) 240 ∧ (vp_in (x134_6 + x134_7) 240 ∧ (∀ S13 : MST, S13 = ms S_134 42 (upd (S_134 42) (x134_6 + x134_7 : Int32).toNatClampNeg (S_134 42 ((15 * x134_1) + x134_5 : Int32).toNatClampNeg)) → (wj_X12_goes_604 S13 x134_3 x134_9 Post))))) ∧ (x134_4 = 2 → (vp_in ((15 * x134_1) + x134_5) 240 ∧ (∀ S14 : MST, S14 = ms S_134 42 (upd (S_134 42) ((15 * x134_1) + x134_5 : Int32).toNatClampNeg x134_8) → (wj_X12_goes_604 S14 x134_3 x134_9 Post)))) ∧ (x134_4 = 3 → (wj_X12_goes_549 S_134 x134_3 x134_4 x134_6 x134_7 x134_8 Post)) ∧ (x134_4 = 4 → (wj_X12_goes_549 S_134 x134_3 x134_4 x134_6 x134_7 x134_8 Post)) ∧ (x134_4 = 5 → (wj_X12_goes_549 S_134 x134_3 x134_4 x134_6 x134_7 x134_8 Post)) ∧ (x134_4 = 6 → (wj_X12_goes_549 S_134 x134_3 x134_4 x134_6 x134_7 x134_8 Post)) ∧ (x134_4 = 7 → (wj_X12_goes_549 S_134 x134_3 x134_4 x134_6 x134_7 x134_8 Post)) ∧ (x134_4 = 8 → (wj_X12_goes_549 S_134 x134_3 x134_4 x134_6 x134_7 x134_8 Post)) ∧ (x134_4 = 9 → (((x134_3 < x134_5) → (vp_in x134_1 16 ∧ (∀ S16 : MST, S16 = ms S_134 39 (upd (S_134 39) (x134_1 : Int32).toNatClampNeg x134_5) → (wj_X12_goes_604 S16 x134_3 x134_9 Post)))) ∧ ((¬ (x134_3 < x134_5)) → (wp_X12_stepOn S_134  (fun S17 r17 => (((r17 : Int32) = 0) → (wj_X12_goes_604 S17 x134_3 x134_9 Post)) ∧ ((¬ ((r17 : Int32) = 0)) → (vp_in x134_1 16 ∧ (∀ S19 : MST, S19 = ms S17 39 (upd (S17 39) (x134_1 : Int32).toNatClampNeg x134_5) → (wj_X12_goes_604 S19 x134_3 x134_9 Post))))))))) ∧ (x134_4 = 10 → (((¬ ((x134_8 : Int32) = 0)) → (wj_X12_goes_604 S_134 x134_3 x134_9 Post)) ∧ (((x134_8 : Int32) = 0) → (((x134_3 < x134_5) → (vp_in x134_1 16 ∧ (∀ S22 : MST, S22 = ms S_134 39 (upd (S_134 39) (x134_1 : Int32).toNatClampNeg x134_5) → (wj_X12_goes_604 S22 x134_3 x134_9 Post)))) ∧ ((¬ (x134_3 < x134_5)) → (wp_X12_stepOn S_134  (fun S23 r23 => (((r23 : Int32) = 0) → (wj_X12_goes_604 S23 x134_3 x134_9 Post)) ∧ ((¬ ((r23 : Int32) = 0)) → (vp_in x134_1 16 ∧ (∀ S25 : MST, S25 = ms S23 39 (upd (S23 39) (x134_1 : Int32).toNatClampNeg x134_5) → (wj_X12_goes_604 S25 x134_3 x134_9 Post))))))))))) ∧ (x134_4 = 11 → (vp_in x134_1 16 ∧ (∀ S26 : MST, S26 = ms S_134 39 (upd (S_134 39) (x134_1 : Int32).toNatClampNeg x134_3) → (vp_in x134_5 8 ∧ (wp_X12_call_r S26 x134_5 ((x134_6 + x134_7) - (S26 1 (x134_5 : Int32).toNatClampNeg)) x134_3 (fun S28 => wj_X12_goes_604 S28 x134_3 x134_9 Post)))))) ∧ (x134_4 = 12 → (wp_X12_returns S_134 x134_8 (fun S29 => wj_X12_goes_604 S29 x134_3 x134_9 Post))) ∧ (x134_4 = 13 → (vp_in x134_5 8 ∧ (vp_in (x134_6 + x134_7) 240 ∧ (∀ S31 : MST, S31 = ms S_134 42 (upd (S_134 42) (x134_6 + x134_7 : Int32).toNatClampNeg (S_134 12 (x134_5 : Int32).toNatClampNeg)) → (wj_X12_goes_604 S31 x134_3 x134_9 Post))))) ∧ (x134_4 = 14 → (vp_in x134_5 8 ∧ (∀ S32 : MST, S32 = ms S_134 12 (upd (S_134 12) (x134_5 : Int32).toNatClampNeg x134_8) → (wj_X12_goes_604 S32 x134_3 x134_9 Post)))) ∧ (x134_4 = 15 → (wp_X12_makesRow S_134 x134_5 x134_8 (fun S33 r33 => wj_X12_goes_604 S33 x134_3 r33 Post))) ∧ (x134_4 = 16 → (wp_X12_refuses S_134 x134_5 x134_8 (fun r34 => ((¬ ((r34 : Int32) = 0)) → (vp_in ((x134_6 + x134_7) - 1) 240 ∧ (∀ S36 : MST, S36 = ms S_134 42 (upd (S_134 42) ((x134_6 + x134_7) - 1 : Int32).toNatClampNeg x134_8) → (wj_X12_goes_604 S36 x134_3 r34 Post)))) ∧ (((r34 : Int32) = 0) → (vp_in ((20 * x134_5) + x134_8) 80 ∧ (vp_in ((x134_6 + x134_7) - 1) 240 ∧ (∀ S38 : MST, S38 = ms S_134 42 (upd (S_134 42) ((x134_6 + x134_7) - 1 : Int32).toNatClampNeg (S_134 14 ((20 * x134_5) + x134_8 : Int32).toNatClampNeg)) → (wj_X12_goes_604 S38 x134_3 r34 Post)))))))) ∧ (x134_4 = 17 → (vp_in ((x134_6 + x134_7) - 2) 240 ∧ (wp_X12_refuses S_134 x134_5 (S_134 42 ((x134_6 + x134_7) - 2 : Int32).toNatClampNeg) (fun r40 => ((¬ ((r40 : Int32) = 0)) → (wj_X12_goes_604 S_134 x134_3 r40 Post)) ∧ (((r40 : Int32) = 0) → (vp_in ((x134_6 + x134_7) - 2) 240 ∧ (vp_in ((20 * x134_5) + (S_134 42 ((x134_6 + x134_7) - 2 : Int32).toNatClampNeg)) 80 ∧ (∀ S43 : MST, S43 = ms S_134 14 (upd (S_134 14) ((20 * x134_5) + (S_134 42 ((x134_6 + x134_7) - 2 : Int32).toNatClampNeg) : Int32).toNatClampNeg x134_8) → (wj_X12_goes_604 S43 x134_3 r40 Post))))))))) ∧ (x134_4 = 18 → (vp_in (x134_6 + x134_7) 240 ∧ (∀ S44 : MST, S44 = ms S_134 42 (upd (S_134 42) (x134_6 + x134_7 : Int32).toNatClampNeg x134_8) → (wj_X12_goes_604 S44 x134_3 x134_9 Post)))) ∧ (x134_4 = 19 → (wj_X12_goes_604 S_134 x134_3 x134_9 Post))
def wj_X12_goes_87 (S_87 : MST) (x87_1 : Int32) (x87_3 : Int32) (x87_4 : Int32) (x87_5 : Int32) (x87_6 : Int32) (x87_7 : Int32) (x87_8 : Int32) (Post : MST → Prop) : Prop :=
  vp_in x87_1 16 ∧ (∀ S45 : MST, S45 = ms S_87 39 (upd (S_87 39) (x87_1 : Int32).toNatClampNeg (x87_3 + 1)) → (((¬ ((x87_4 : Int32) = 11)) → (wp_X12_takes S45 x87_4 x87_5 (fun r47 => wp_X12_lays x87_4 (fun r48 => vp_in x87_1 16 ∧ (∀ S49 : MST, S49 = ms S45 41 (upd (S45 41) (x87_1 : Int32).toNatClampNeg ((x87_7 - r47) + r48)) → (wj_X12_goes_134 S49 x87_1 x87_3 x87_4 x87_5 x87_6 x87_7 x87_8 0 Post)))))) ∧ (((x87_4 : Int32) = 11) → (vp_in x87_1 16 ∧ (∀ S50 : MST, S50 = ms S45 41 (upd (S45 41) (x87_1 : Int32).toNatClampNeg x87_7) → (wj_X12_goes_134 S50 x87_1 x87_3 x87_4 x87_5 x87_6 x87_7 x87_8 0 Post))))))
def wp_X12_goes (S : MST) (Post : MST → Prop) : Prop :=
  vp_in ((S 37 0) - 1) 16 ∧ (vp_in ((S 37 0) - 1) 16 ∧ (vp_in ((60 * (S 38 ((S 37 0) - 1 : Int32).toNatClampNeg)) + (S 39 ((S 37 0) - 1 : Int32).toNatClampNeg)) 480 ∧ (vp_in ((60 * (S 38 ((S 37 0) - 1 : Int32).toNatClampNeg)) + (S 39 ((S 37 0) - 1 : Int32).toNatClampNeg)) 480 ∧ (vp_in ((S 37 0) - 1) 16 ∧ (((((S 41 ((S 37 0) - 1 : Int32).toNatClampNeg) : Int32) ≤ 0) → (wj_X12_goes_87 S ((S 37 0) - 1) (S 39 ((S 37 0) - 1 : Int32).toNatClampNeg) (S 4 ((60 * (S 38 ((S 37 0) - 1 : Int32).toNatClampNeg)) + (S 39 ((S 37 0) - 1 : Int32).toNatClampNeg) : Int32).toNatClampNeg) (S 5 ((60 * (S 38 ((S 37 0) - 1 : Int32).toNatClampNeg)) + (S 39 ((S 37 0) - 1 : Int32).toNatClampNeg) : Int32).toNatClampNeg) ((15 * ((S 37 0) - 1)) + 7) (S 41 ((S 37 0) - 1 : Int32).toNatClampNeg) 0 Post)) ∧ ((¬ (((S 41 ((S 37 0) - 1 : Int32).toNatClampNeg) : Int32) ≤ 0)) → (vp_in ((((15 * ((S 37 0) - 1)) + 7) + (S 41 ((S 37 0) - 1 : Int32).toNatClampNeg)) - 1) 240 ∧ (wj_X12_goes_87 S ((S 37 0) - 1) (S 39 ((S 37 0) - 1 : Int32).toNatClampNeg) (S 4 ((60 * (S 38 ((S 37 0) - 1 : Int32).toNatClampNeg)) + (S 39 ((S 37 0) - 1 : Int32).toNatClampNeg) : Int32).toNatClampNeg) (S 5 ((60 * (S 38 ((S 37 0) - 1 : Int32).toNatClampNeg)) + (S 39 ((S 37 0) - 1 : Int32).toNatClampNeg) : Int32).toNatClampNeg) ((15 * ((S 37 0) - 1)) + 7) (S 41 ((S 37 0) - 1 : Int32).toNatClampNeg) (S 42 ((((15 * ((S 37 0) - 1)) + 7) + (S 41 ((S 37 0) - 1 : Int32).toNatClampNeg)) - 1 : Int32).toNatClampNeg) Post))))))))
def zw_zd_X12_goes_w0 : List Cond := [.code yX12_traps cX12_traps 3 none, .fieldLink RX12 233 "TemplateForgeModel" "outcome" "I", .fieldLink RX12 126 "TemplateForgeModel" "trap" "[I", .fieldLink RX12 111 "TemplateForgeModel" "frameMethod" "[I", .fieldLink RX12 236 "TemplateForgeModel" "open" "I", .methodLink RX12 239 yX12_traps, .instanceMethod yX12_traps, .selects RX12 yX12_traps yX12_traps, .initialized RX12, .fieldLink RX12 123 "TemplateForgeModel" "register" "[I", .code yX12_sumOf cX12_sumOf 3 (some .int), .methodLink RX12 195 yX12_sumOf, .static yX12_sumOf, .fieldLink RX12 114 "TemplateForgeModel" "frameAt" "[I", .code yX12_stepOn cX12_stepOn 1 (some .boolean), .fieldLink RX12 230 "TemplateForgeModel" "steps" "I"]
def zw_zd_X12_goes_w1 : List Cond := [.methodLink RX12 242 yX12_stepOn, .instanceMethod yX12_stepOn, .selects RX12 yX12_stepOn yX12_stepOn, .fieldLink RX12 7 "TemplateForgeModel" "args" "[I", .code yX12_call cX12_call 7 none, .fieldLink RX12 120 "TemplateForgeModel" "frameDepth" "[I", .fieldLink RX12 50 "TemplateForgeModel" "hasCode" "[Z", .fieldLink RX12 117 "TemplateForgeModel" "frameCode" "[I", .code yX12_remember cX12_remember 6 none, .fieldLink RX12 53 "TemplateForgeModel" "counted" "[I", .fieldLink RX12 41 "TemplateForgeModel" "fields" "[I", .fieldLink RX12 68 "TemplateForgeModel" "isLike" "[Z", .fieldLink RX12 65 "TemplateForgeModel" "value" "[I", .methodLink RX12 255 yX12_remember, .instanceMethod yX12_remember, .selects RX12 yX12_remember yX12_remember]
def zw_zd_X12_goes_w2 : List Cond := [.code yX12_codeNow cX12_codeNow 2 (some .int), .fieldLink RX12 56 "TemplateForgeModel" "madeCodes" "[I", .methodLink RX12 217 yX12_codeNow, .instanceMethod yX12_codeNow, .selects RX12 yX12_codeNow yX12_codeNow, .fieldLink RX12 62 "TemplateForgeModel" "codeCalls" "[I", .fieldLink RX12 252 "TemplateForgeModel" "callsByCode" "I", .fieldLink RX12 246 "TemplateForgeModel" "calls" "I", .code yX12_makeCode cX12_makeCode 4 none, .code yX12_assumes cX12_assumes 4 none, .code yX12_has cX12_has 6 (some .boolean), .fieldLink RX12 16 "TemplateForgeModel" "many" "[I", .fieldLink RX12 29 "TemplateForgeModel" "depths" "[I", .fieldLink RX12 19 "TemplateForgeModel" "op" "[I", .fieldLink RX12 22 "TemplateForgeModel" "operand" "[I", .methodLink RX12 178 yX12_has]
def zw_zd_X12_goes_w3 : List Cond := [.instanceMethod yX12_has, .selects RX12 yX12_has yX12_has, .fieldLink RX12 96 "TemplateForgeModel" "assumed" "[Z", .fieldLink RX12 71 "TemplateForgeModel" "doesVary" "[Z", .methodLink RX12 214 yX12_assumes, .instanceMethod yX12_assumes, .selects RX12 yX12_assumes yX12_assumes, .fieldLink RX12 181 "TemplateForgeModel" "code" "I", .fieldLink RX12 74 "TemplateForgeModel" "partMany" "[I", .fieldLink RX12 184 "TemplateForgeModel" "owner" "I", .code yX12_fieldGuards cX12_fieldGuards 3 none, .code yX12_part cX12_part 6 none, .fieldLink RX12 81 "TemplateForgeModel" "partOp" "[I", .fieldLink RX12 84 "TemplateForgeModel" "partD" "[I", .fieldLink RX12 87 "TemplateForgeModel" "partA" "[I", .fieldLink RX12 90 "TemplateForgeModel" "partB" "[I"]
def zw_zd_X12_goes_w4 : List Cond := [.fieldLink RX12 93 "TemplateForgeModel" "partOf" "[I", .methodLink RX12 187 yX12_part, .instanceMethod yX12_part, .selects RX12 yX12_part yX12_part, .methodLink RX12 208 yX12_fieldGuards, .instanceMethod yX12_fieldGuards, .selects RX12 yX12_fieldGuards yX12_fieldGuards, .code yX12_begins cX12_begins 3 none, .fieldLink RX12 99 "TemplateForgeModel" "localKnown" "[Z", .fieldLink RX12 102 "TemplateForgeModel" "localIs" "[I", .fieldLink RX12 105 "TemplateForgeModel" "placeKnown" "[Z", .methodLink RX12 220 yX12_begins, .instanceMethod yX12_begins, .selects RX12 yX12_begins yX12_begins, .code yX12_isTarget cX12_isTarget 3 (some .boolean), .methodLink RX12 223 yX12_isTarget]
def zw_zd_X12_goes_w5 : List Cond := [.instanceMethod yX12_isTarget, .selects RX12 yX12_isTarget yX12_isTarget, .fieldLink RX12 77 "TemplateForgeModel" "starts" "[I", .code yX12_make cX12_make 7 none, .code yX12_makeTwo cX12_makeTwo 5 none, .code yX12_layOne cX12_layOne 2 none, .fieldLink RX12 108 "TemplateForgeModel" "placeIs" "[I", .methodLink RX12 191 yX12_layOne, .instanceMethod yX12_layOne, .selects RX12 yX12_layOne yX12_layOne, .methodLink RX12 211 yX12_makeTwo, .instanceMethod yX12_makeTwo, .selects RX12 yX12_makeTwo yX12_makeTwo, .code yX12_knows cX12_knows 3 none, .methodLink RX12 201 yX12_knows, .instanceMethod yX12_knows]
def zw_zd_X12_goes_w6 : List Cond := [.selects RX12 yX12_knows yX12_knows, .code yX12_layAll cX12_layAll 3 none, .methodLink RX12 198 yX12_layAll, .instanceMethod yX12_layAll, .selects RX12 yX12_layAll yX12_layAll, .code yX12_makeWhen cX12_makeWhen 3 none, .methodLink RX12 205 yX12_makeWhen, .instanceMethod yX12_makeWhen, .selects RX12 yX12_makeWhen yX12_makeWhen, .methodLink RX12 227 yX12_make, .instanceMethod yX12_make, .selects RX12 yX12_make yX12_make, .methodLink RX12 249 yX12_makeCode, .instanceMethod yX12_makeCode, .selects RX12 yX12_makeCode yX12_makeCode, .methodLink RX12 262 yX12_call]
def zw_zd_X12_goes_w7 : List Cond := [.instanceMethod yX12_call, .selects RX12 yX12_call yX12_call, .code yX12_returns cX12_returns 5 none, .fieldLink RX12 259 "TemplateForgeModel" "answer" "I", .methodLink RX12 266 yX12_returns, .instanceMethod yX12_returns, .selects RX12 yX12_returns yX12_returns, .code yX12_makesRow cX12_makesRow 4 (some .int), .fieldLink RX12 44 "TemplateForgeModel" "sizes" "[I", .fieldLink RX12 47 "TemplateForgeModel" "rows" "[I", .methodLink RX12 269 yX12_makesRow, .instanceMethod yX12_makesRow, .selects RX12 yX12_makesRow yX12_makesRow, .code yX12_refuses cX12_refuses 3 (some .int), .code yX12_in cX12_in 6 (some .boolean), .methodLink RX12 134 yX12_in]
def zw_zd_X12_goes_w8 : List Cond := [.static yX12_in, .methodLink RX12 272 yX12_refuses, .instanceMethod yX12_refuses, .selects RX12 yX12_refuses yX12_refuses, .code yX12_takes cX12_takes 3 (some .int), .methodLink RX12 156 yX12_takes, .instanceMethod yX12_takes, .selects RX12 yX12_takes yX12_takes, .code yX12_lays cX12_lays 1 (some .int), .methodLink RX12 160 yX12_lays, .static yX12_lays]
def zw_zd_X12_goes : List Cond := .code yX12_goes cX12_goes 10 none :: ((zw_zd_X12_goes_w0 ++ (zw_zd_X12_goes_w1 ++ (zw_zd_X12_goes_w2 ++ (zw_zd_X12_goes_w3 ++ (zw_zd_X12_goes_w4 ++ (zw_zd_X12_goes_w5 ++ (zw_zd_X12_goes_w6 ++ (zw_zd_X12_goes_w7 ++ (zw_zd_X12_goes_w8))))))))) ++ wsX120)
set_option maxRecDepth 100000 in
theorem zg_zd_X12_goes_zd_X12_traps_239_a : GoodIn zw_zd_X12_goes [.methodLink RX12 239 yX12_traps, .instanceMethod yX12_traps, .selects RX12 yX12_traps yX12_traps, .initialized RX12] := goodIn_r _ [6, 7, 8, 9] rfl (by decide +kernel)
set_option maxRecDepth 100000 in
theorem zg_zd_X12_goes_zd_X12_traps_239_c : GoodIn zw_zd_X12_goes [.code yX12_traps cX12_traps 3 none] := goodIn_r _ [1] rfl (by decide +kernel)
set_option maxRecDepth 100000 in
theorem zg_zd_X12_goes_zd_X12_traps_239_0 : GoodIn zw_zd_X12_goes zw_zd_X12_traps_w0 := goodIn_r _ [2, 3, 4, 5] rfl (by decide +kernel)
theorem zg_zd_X12_goes_zd_X12_traps_239 : GoodIn zw_zd_X12_goes (wsV RX12 239 RX12 yX12_traps zw_zd_X12_traps) := goodIn_app zg_zd_X12_goes_zd_X12_traps_239_a (goodIn_ca (a := (zw_zd_X12_traps_w0)) (show GoodIn zw_zd_X12_goes (.code yX12_traps cX12_traps 3 none :: (zw_zd_X12_traps_w0)) from goodIn_app zg_zd_X12_goes_zd_X12_traps_239_c (zg_zd_X12_goes_zd_X12_traps_239_0)) (fun w h => ⟨(fun _ h => List.mem_cons_of_mem _ (List.mem_append_right _ h)) w h, good_of_word (List.all_eq_true.mp zgw_X12 w h)⟩))
set_option maxRecDepth 100000 in
theorem zg_zd_X12_goes_zd_X12_sumOf_195_a : GoodIn zw_zd_X12_goes [.methodLink RX12 195 yX12_sumOf, .static yX12_sumOf, .initialized RX12] := goodIn_r _ [12, 13, 9] rfl (by decide +kernel)
set_option maxRecDepth 100000 in
theorem zg_zd_X12_goes_zd_X12_sumOf_195_c : GoodIn zw_zd_X12_goes [.code yX12_sumOf cX12_sumOf 3 (some .int)] := goodIn_r _ [11] rfl (by decide +kernel)
theorem zg_zd_X12_goes_zd_X12_sumOf_195 : GoodIn zw_zd_X12_goes (va_wsS RX12 195 yX12_sumOf zw_zd_X12_sumOf) := goodIn_app zg_zd_X12_goes_zd_X12_sumOf_195_a (show GoodIn zw_zd_X12_goes (.code yX12_sumOf cX12_sumOf 3 (some .int) :: (([] : List Cond))) from zg_zd_X12_goes_zd_X12_sumOf_195_c)
set_option maxRecDepth 100000 in
theorem zg_zd_X12_goes_zd_X12_stepOn_242_a : GoodIn zw_zd_X12_goes [.methodLink RX12 242 yX12_stepOn, .instanceMethod yX12_stepOn, .selects RX12 yX12_stepOn yX12_stepOn, .initialized RX12] := goodIn_r _ [17, 18, 19, 9] rfl (by decide +kernel)
set_option maxRecDepth 100000 in
theorem zg_zd_X12_goes_zd_X12_stepOn_242_c : GoodIn zw_zd_X12_goes [.code yX12_stepOn cX12_stepOn 1 (some .boolean)] := goodIn_r _ [15] rfl (by decide +kernel)
set_option maxRecDepth 100000 in
theorem zg_zd_X12_goes_zd_X12_stepOn_242_0 : GoodIn zw_zd_X12_goes zw_zd_X12_stepOn_w0 := goodIn_r _ [16, 2] rfl (by decide +kernel)
theorem zg_zd_X12_goes_zd_X12_stepOn_242 : GoodIn zw_zd_X12_goes (wsV RX12 242 RX12 yX12_stepOn zw_zd_X12_stepOn) := goodIn_app zg_zd_X12_goes_zd_X12_stepOn_242_a (goodIn_ca (a := (zw_zd_X12_stepOn_w0)) (show GoodIn zw_zd_X12_goes (.code yX12_stepOn cX12_stepOn 1 (some .boolean) :: (zw_zd_X12_stepOn_w0)) from goodIn_app zg_zd_X12_goes_zd_X12_stepOn_242_c (zg_zd_X12_goes_zd_X12_stepOn_242_0)) (fun w h => ⟨(fun _ h => List.mem_cons_of_mem _ (List.mem_append_right _ h)) w h, good_of_word (List.all_eq_true.mp zgw_X12 w h)⟩))
set_option maxRecDepth 100000 in
theorem zg_zd_X12_goes_zd_X12_call_r_262_a : GoodIn zw_zd_X12_goes [.methodLink RX12 262 yX12_call, .instanceMethod yX12_call, .selects RX12 yX12_call yX12_call, .initialized RX12] := goodIn_r _ [112, 113, 114, 9] rfl (by decide +kernel)
set_option maxRecDepth 100000 in
theorem zg_zd_X12_goes_zd_X12_call_r_262_c : GoodIn zw_zd_X12_goes [.code yX12_call cX12_call 7 none] := goodIn_r _ [21] rfl (by decide +kernel)
set_option maxRecDepth 100000 in
theorem zg_zd_X12_goes_zd_X12_call_r_262_0 : GoodIn zw_zd_X12_goes zw_zd_X12_call_r_w0 := goodIn_r _ [5, 4, 14, 22, 23, 24, 25, 26, 27, 28, 29, 20, 30, 31, 32, 9] rfl (by decide +kernel)
set_option maxRecDepth 100000 in
theorem zg_zd_X12_goes_zd_X12_call_r_262_1 : GoodIn zw_zd_X12_goes zw_zd_X12_call_r_w1 := goodIn_r _ [33, 34, 35, 36, 37, 38, 39, 10, 15, 16, 2, 17, 18, 19, 40, 41] rfl (by decide +kernel)
set_option maxRecDepth 100000 in
theorem zg_zd_X12_goes_zd_X12_call_r_262_2 : GoodIn zw_zd_X12_goes zw_zd_X12_call_r_w2 := goodIn_r _ [42, 43, 44, 45, 46, 47, 48, 49, 50, 51, 52, 53, 54, 55, 56, 57] rfl (by decide +kernel)
set_option maxRecDepth 100000 in
theorem zg_zd_X12_goes_zd_X12_call_r_262_3 : GoodIn zw_zd_X12_goes zw_zd_X12_call_r_w3 := goodIn_r _ [58, 59, 60, 61, 62, 63, 64, 65, 66, 67, 68, 69, 70, 71, 72, 73] rfl (by decide +kernel)
set_option maxRecDepth 100000 in
theorem zg_zd_X12_goes_zd_X12_call_r_262_4 : GoodIn zw_zd_X12_goes zw_zd_X12_call_r_w4 := goodIn_r _ [74, 75, 76, 77, 78, 79, 80, 81, 82, 83, 84, 85, 86, 87, 88, 89] rfl (by decide +kernel)
set_option maxRecDepth 100000 in
theorem zg_zd_X12_goes_zd_X12_call_r_262_5 : GoodIn zw_zd_X12_goes zw_zd_X12_call_r_w5 := goodIn_r _ [90, 11, 12, 13, 91, 92, 93, 94, 95, 96, 97, 98, 99, 100, 101, 102] rfl (by decide +kernel)
set_option maxRecDepth 100000 in
theorem zg_zd_X12_goes_zd_X12_call_r_262_6 : GoodIn zw_zd_X12_goes zw_zd_X12_call_r_w6 := goodIn_r _ [103, 104, 105, 106, 107, 108, 109, 110, 111, 1, 3, 6, 7, 8] rfl (by decide +kernel)
theorem zg_zd_X12_goes_zd_X12_call_r_262 : GoodIn zw_zd_X12_goes (wsV RX12 262 RX12 yX12_call zw_zd_X12_call_r) := goodIn_app zg_zd_X12_goes_zd_X12_call_r_262_a (goodIn_ca (a := (zw_zd_X12_call_r_w0 ++ (zw_zd_X12_call_r_w1 ++ (zw_zd_X12_call_r_w2 ++ (zw_zd_X12_call_r_w3 ++ (zw_zd_X12_call_r_w4 ++ (zw_zd_X12_call_r_w5 ++ (zw_zd_X12_call_r_w6)))))))) (show GoodIn zw_zd_X12_goes (.code yX12_call cX12_call 7 none :: (zw_zd_X12_call_r_w0 ++ (zw_zd_X12_call_r_w1 ++ (zw_zd_X12_call_r_w2 ++ (zw_zd_X12_call_r_w3 ++ (zw_zd_X12_call_r_w4 ++ (zw_zd_X12_call_r_w5 ++ (zw_zd_X12_call_r_w6)))))))) from goodIn_app zg_zd_X12_goes_zd_X12_call_r_262_c (goodIn_app zg_zd_X12_goes_zd_X12_call_r_262_0 (goodIn_app zg_zd_X12_goes_zd_X12_call_r_262_1 (goodIn_app zg_zd_X12_goes_zd_X12_call_r_262_2 (goodIn_app zg_zd_X12_goes_zd_X12_call_r_262_3 (goodIn_app zg_zd_X12_goes_zd_X12_call_r_262_4 (goodIn_app zg_zd_X12_goes_zd_X12_call_r_262_5 (zg_zd_X12_goes_zd_X12_call_r_262_6)))))))) (fun w h => ⟨(fun _ h => List.mem_cons_of_mem _ (List.mem_append_right _ h)) w h, good_of_word (List.all_eq_true.mp zgw_X12 w h)⟩))
set_option maxRecDepth 100000 in
theorem zg_zd_X12_goes_zd_X12_returns_266_a : GoodIn zw_zd_X12_goes [.methodLink RX12 266 yX12_returns, .instanceMethod yX12_returns, .selects RX12 yX12_returns yX12_returns, .initialized RX12] := goodIn_r _ [117, 118, 119, 9] rfl (by decide +kernel)
set_option maxRecDepth 100000 in
theorem zg_zd_X12_goes_zd_X12_returns_266_c : GoodIn zw_zd_X12_goes [.code yX12_returns cX12_returns 5 none] := goodIn_r _ [115] rfl (by decide +kernel)
set_option maxRecDepth 100000 in
theorem zg_zd_X12_goes_zd_X12_returns_266_0 : GoodIn zw_zd_X12_goes zw_zd_X12_returns_w0 := goodIn_r _ [5, 24, 14, 10, 62, 47, 4, 22, 20, 116, 2] rfl (by decide +kernel)
theorem zg_zd_X12_goes_zd_X12_returns_266 : GoodIn zw_zd_X12_goes (wsV RX12 266 RX12 yX12_returns zw_zd_X12_returns) := goodIn_app zg_zd_X12_goes_zd_X12_returns_266_a (goodIn_ca (a := (zw_zd_X12_returns_w0)) (show GoodIn zw_zd_X12_goes (.code yX12_returns cX12_returns 5 none :: (zw_zd_X12_returns_w0)) from goodIn_app zg_zd_X12_goes_zd_X12_returns_266_c (zg_zd_X12_goes_zd_X12_returns_266_0)) (fun w h => ⟨(fun _ h => List.mem_cons_of_mem _ (List.mem_append_right _ h)) w h, good_of_word (List.all_eq_true.mp zgw_X12 w h)⟩))
set_option maxRecDepth 100000 in
theorem zg_zd_X12_goes_zd_X12_makesRow_269_a : GoodIn zw_zd_X12_goes [.methodLink RX12 269 yX12_makesRow, .instanceMethod yX12_makesRow, .selects RX12 yX12_makesRow yX12_makesRow, .initialized RX12] := goodIn_r _ [123, 124, 125, 9] rfl (by decide +kernel)
set_option maxRecDepth 100000 in
theorem zg_zd_X12_goes_zd_X12_makesRow_269_c : GoodIn zw_zd_X12_goes [.code yX12_makesRow cX12_makesRow 4 (some .int)] := goodIn_r _ [120] rfl (by decide +kernel)
set_option maxRecDepth 100000 in
theorem zg_zd_X12_goes_zd_X12_makesRow_269_0 : GoodIn zw_zd_X12_goes zw_zd_X12_makesRow_w0 := goodIn_r _ [121, 122] rfl (by decide +kernel)
theorem zg_zd_X12_goes_zd_X12_makesRow_269 : GoodIn zw_zd_X12_goes (wsV RX12 269 RX12 yX12_makesRow zw_zd_X12_makesRow) := goodIn_app zg_zd_X12_goes_zd_X12_makesRow_269_a (goodIn_ca (a := (zw_zd_X12_makesRow_w0)) (show GoodIn zw_zd_X12_goes (.code yX12_makesRow cX12_makesRow 4 (some .int) :: (zw_zd_X12_makesRow_w0)) from goodIn_app zg_zd_X12_goes_zd_X12_makesRow_269_c (zg_zd_X12_goes_zd_X12_makesRow_269_0)) (fun w h => ⟨(fun _ h => List.mem_cons_of_mem _ (List.mem_append_right _ h)) w h, good_of_word (List.all_eq_true.mp zgw_X12 w h)⟩))
set_option maxRecDepth 100000 in
theorem zg_zd_X12_goes_zd_X12_refuses_272_a : GoodIn zw_zd_X12_goes [.methodLink RX12 272 yX12_refuses, .instanceMethod yX12_refuses, .selects RX12 yX12_refuses yX12_refuses, .initialized RX12] := goodIn_r _ [130, 131, 132, 9] rfl (by decide +kernel)
set_option maxRecDepth 100000 in
theorem zg_zd_X12_goes_zd_X12_refuses_272_c : GoodIn zw_zd_X12_goes [.code yX12_refuses cX12_refuses 3 (some .int)] := goodIn_r _ [126] rfl (by decide +kernel)
set_option maxRecDepth 100000 in
theorem zg_zd_X12_goes_zd_X12_refuses_272_0 : GoodIn zw_zd_X12_goes zw_zd_X12_refuses_w0 := goodIn_r _ [121, 127, 128, 129, 9] rfl (by decide +kernel)
theorem zg_zd_X12_goes_zd_X12_refuses_272 : GoodIn zw_zd_X12_goes (wsV RX12 272 RX12 yX12_refuses zw_zd_X12_refuses) := goodIn_app zg_zd_X12_goes_zd_X12_refuses_272_a (goodIn_ca (a := (zw_zd_X12_refuses_w0)) (show GoodIn zw_zd_X12_goes (.code yX12_refuses cX12_refuses 3 (some .int) :: (zw_zd_X12_refuses_w0)) from goodIn_app zg_zd_X12_goes_zd_X12_refuses_272_c (zg_zd_X12_goes_zd_X12_refuses_272_0)) (fun w h => ⟨(fun _ h => List.mem_cons_of_mem _ (List.mem_append_right _ h)) w h, good_of_word (List.all_eq_true.mp zgw_X12 w h)⟩))
set_option maxRecDepth 100000 in
theorem zg_zd_X12_goes_zd_X12_takes_156_a : GoodIn zw_zd_X12_goes [.methodLink RX12 156 yX12_takes, .instanceMethod yX12_takes, .selects RX12 yX12_takes yX12_takes, .initialized RX12] := goodIn_r _ [134, 135, 136, 9] rfl (by decide +kernel)
set_option maxRecDepth 100000 in
theorem zg_zd_X12_goes_zd_X12_takes_156_c : GoodIn zw_zd_X12_goes [.code yX12_takes cX12_takes 3 (some .int)] := goodIn_r _ [133] rfl (by decide +kernel)
set_option maxRecDepth 100000 in
theorem zg_zd_X12_goes_zd_X12_takes_156_0 : GoodIn zw_zd_X12_goes zw_zd_X12_takes_w0 := goodIn_r _ [20] rfl (by decide +kernel)
theorem zg_zd_X12_goes_zd_X12_takes_156 : GoodIn zw_zd_X12_goes (wsV RX12 156 RX12 yX12_takes zw_zd_X12_takes) := goodIn_app zg_zd_X12_goes_zd_X12_takes_156_a (goodIn_ca (a := (zw_zd_X12_takes_w0)) (show GoodIn zw_zd_X12_goes (.code yX12_takes cX12_takes 3 (some .int) :: (zw_zd_X12_takes_w0)) from goodIn_app zg_zd_X12_goes_zd_X12_takes_156_c (zg_zd_X12_goes_zd_X12_takes_156_0)) (fun w h => ⟨(fun _ h => List.mem_cons_of_mem _ (List.mem_append_right _ h)) w h, good_of_word (List.all_eq_true.mp zgw_X12 w h)⟩))
set_option maxRecDepth 100000 in
theorem zg_zd_X12_goes_zd_X12_lays_160_a : GoodIn zw_zd_X12_goes [.methodLink RX12 160 yX12_lays, .static yX12_lays, .initialized RX12] := goodIn_r _ [138, 139, 9] rfl (by decide +kernel)
set_option maxRecDepth 100000 in
theorem zg_zd_X12_goes_zd_X12_lays_160_c : GoodIn zw_zd_X12_goes [.code yX12_lays cX12_lays 1 (some .int)] := goodIn_r _ [137] rfl (by decide +kernel)
theorem zg_zd_X12_goes_zd_X12_lays_160 : GoodIn zw_zd_X12_goes (va_wsS RX12 160 yX12_lays zw_zd_X12_lays) := goodIn_app zg_zd_X12_goes_zd_X12_lays_160_a (show GoodIn zw_zd_X12_goes (.code yX12_lays cX12_lays 1 (some .int) :: (([] : List Cond))) from zg_zd_X12_goes_zd_X12_lays_160_c)
set_option maxHeartbeats 16000000 in
set_option maxRecDepth 100000 in
theorem zd_X12_goes (l : Launch) (D : va_G) (cI cZ cP cF : Nat) (h0 : Nat) (q : Nat → Nat) (S : MST) (sz : Nat) (Post : MST → Prop) (h : wp_X12_goes S Post) : Met l yX12_goes zw_zd_X12_goes ({ frames := 7, cells := 0, slots := 0, locals := 165 }) (va_Pc [.ref h0] (fun U => U.heap.size = sz ∧ va_P D vwCl (mW cI cZ h0 q S) U.heap ∧ zE D cI cZ cP cF U ∧ va_D (fun _ => True) (mW cI cZ h0 q S))) (va_Qv (fun S' => Post S') (fun (S' : MST) t => va_P D vwCl (mW cI cZ h0 q S') t.heap ∧ va_D (va_A (mW cI cZ h0 q S) sz) (mW cI cZ h0 q S')) (va_A (mW cI cZ h0 q S) sz)) 0 0 (va_A (mW cI cZ h0 q S) sz) := by
  unfold wp_X12_goes at h
  refine Met.ofW (cc := cX12_goes) (maxL := 10) (ret := none) (by decide) rfl ?_
  intro p e s m args below meth c s₁ B hml hv
  obtain ⟨rfl, hsz, hP, hE, hD0⟩ := hv
  have hx := B.exec
  have hb := B.bytes
  have hr := B.returns
  have hts := atoms_spec (ws := zw_zd_X12_goes) B.pre
  have hown : s.vm.findClass RX12 = some m.cls := findClass_of_methodNamed B.named
  have hlocks := B.notSynchronized
  have hK := hE.k
  subst hsz
  have hD := hD0.self (sz := s.heap.size)
  generalize hAe : va_A (mW cI cZ h0 q S) s.heap.size = A at hD ⊢
  have hA : ∀ q : Nat, s.heap.size ≤ q → A q := fun q h => by rw [← hAe]; exact Or.inr h
  have hl := lv_entry ([.ref h0]) (n := 10) (Nat.le_of_ble_eq_true rfl)
  rw [lg_entry_eq]
  generalize (lg_sl ([.ref h0]) ++ List.replicate (10 - (lg_sl ([.ref h0])).length) Slot.unset).toArray = ls at hl ⊢
  have hl : lv_has ls 10 [(0, .ref h0)] := hl
  have key : ∀ (H : Heap) (locs : List Loc), va_P D vwCl (mW cI cZ h0 q S) H → va_S A s.heap H locs → W p l e (headSpec zw_zd_X12_goes ({ frames := 7, cells := 0, slots := 0, locals := 165 })).room s m ([.ref h0] : List Value).toArray below meth c H locs 0 0 (MQ below (va_Qv (fun S' => Post S') (fun (S' : MST) t => va_P D vwCl (mW cI cZ h0 q S') t.heap ∧ va_D A (mW cI cZ h0 q S')) A) ([.ref h0] : List Value).toArray s 0 0 A) (F0 m 0 ls []) := by
    intro H locs hP hS
    have J_604 : ∀ (S_604 : MST) (x604_3 : Int32) (x604_9 : Int32) (H : Heap) (locs : List Loc) (ls : Array Slot), wj_X12_goes_604 S_604 x604_3 x604_9 Post → va_P D vwCl (mW cI cZ h0 q S_604) H → va_D A (mW cI cZ h0 q S_604) → va_S A s.heap H locs → lv_has ls 10 [(0, .ref h0), (3, .int x604_3), (9, .int x604_9)] → W p l e (headSpec zw_zd_X12_goes ({ frames := 7, cells := 0, slots := 0, locals := 165 })).room s m ([.ref h0] : List Value).toArray below meth c H locs 0 0 (MQ below (va_Qv (fun S' => Post S') (fun (S' : MST) t => va_P D vwCl (mW cI cZ h0 q S') t.heap ∧ va_D A (mW cI cZ h0 q S')) A) ([.ref h0] : List Value).toArray s 0 0 A) (F0 m 604 ls []) := by
      intro S_604 x604_3 x604_9 H locs ls h hP hD hS hl
      unfold wj_X12_goes_604 at h
      refine lv_iload hx hb dX12_goes_604 (lv_at hl 2 rfl) ?_
      refine lv_if_eq (tgt := 616) hx hb dX12_goes_606 (by decide) (fun c_1 => ?_) (fun c_1 => ?_)
      · have h := h.1 c_1
        exact W.vret hx hb hr (fun t ht hW => ⟨⟨S_604, rfl, h, by rw [ht]; exact hP, hD⟩, hS.F ht⟩) hS.2.2 dX12_goes_616
      · have h := h.2 c_1
        refine lv_aload_n hx hb dX12_goes_609 rfl (lv_at hl 0 rfl) ?_
        refine lv_iload hx hb dX12_goes_610 (lv_at hl 2 rfl) ?_
        refine lv_iload_n hx hb dX12_goes_612 rfl (lv_at hl 1 rfl) ?_
        have hFc := zm_free hD hS hA
        refine va_callv (va_runV (As := [.int x604_9, .int x604_3]) (rest := []) ⟨hx, hb, hml, hown, hts⟩ (zd_X12_traps l D cI cZ cP cF h0 q S_604 x604_9 x604_3 H.size _ h) (cwV 2 hts zg_zd_X12_goes_zd_X12_traps_239 rfl rfl rfl (by decide +kernel) ⟨Nat.le_of_ble_eq_true rfl, Nat.le_of_ble_eq_true rfl⟩) ⟨zBW, va_recv hK hP (ci := 12) (q0 := 0) rfl rfl, fun U hU hW => ⟨rfl, by rw [hU], by rw [hU]; exact hP, hE.warm hW, hD.weaken (fun _ _ _ _ => trivial)⟩⟩ rfl rfl hl.1 rfl (lv_room (Nat.le_of_ble_eq_true rfl)) dX12_goes_613 ⟨Nat.le_of_ble_eq_true rfl, Nat.le_of_ble_eq_true rfl⟩) hS (fun q _ h => hFc q h) hFc (fun S2 t H locs ht hvm h hB hz1 hk1 hS => ?_)
        obtain ⟨hP, hD1⟩ := hB
        rw [ht] at hP
        have hD := hD1.weaken (fun k q _ hq => hFc q.1 hq)
        exact W.vret hx hb hr (fun t ht hW => ⟨⟨S2, rfl, h, by rw [ht]; exact hP, hD⟩, hS.F ht⟩) hS.2.2 dX12_goes_616
    have J_549 : ∀ (S_549 : MST) (x549_3 : Int32) (x549_4 : Int32) (x549_6 : Int32) (x549_7 : Int32) (x549_8 : Int32) (H : Heap) (locs : List Loc) (ls : Array Slot), wj_X12_goes_549 S_549 x549_3 x549_4 x549_6 x549_7 x549_8 Post → va_P D vwCl (mW cI cZ h0 q S_549) H → va_D A (mW cI cZ h0 q S_549) → va_S A s.heap H locs → lv_has ls 10 [(0, .ref h0), (3, .int x549_3), (4, .int x549_4), (6, .int x549_6), (7, .int x549_7), (8, .int x549_8)] → W p l e (headSpec zw_zd_X12_goes ({ frames := 7, cells := 0, slots := 0, locals := 165 })).room s m ([.ref h0] : List Value).toArray below meth c H locs 0 0 (MQ below (va_Qv (fun S' => Post S') (fun (S' : MST) t => va_P D vwCl (mW cI cZ h0 q S') t.heap ∧ va_D A (mW cI cZ h0 q S')) A) ([.ref h0] : List Value).toArray s 0 0 A) (F0 m 549 ls []) := by
      intro S_549 x549_3 x549_4 x549_6 x549_7 x549_8 H locs ls h hP hD hS hl
      unfold wj_X12_goes_549 at h
      refine lv_iload hx hb dX12_goes_549 (lv_at hl 2 rfl) ?_
      refine lv_bipush (v := 6) hx hb dX12_goes_551 (by decide) ?_
      refine lv_icmp_ne (tgt := 565) hx hb dX12_goes_553 (by decide) (fun c_3 => ?_) (fun c_3 => ?_)
      · have h := h.1 c_3
        refine lv_iconst (v := 0) hx hb dX12_goes_565 (by decide) ?_
        refine lv_istore (lv' := [(9, .int 0), (0, .ref h0), (3, .int x549_3), (4, .int x549_4), (6, .int x549_6), (7, .int x549_7), (8, .int x549_8)]) hx hb dX12_goes_566 hl (by decide) rfl (fun ls hl => ?_)
        refine lv_iload hx hb dX12_goes_568 (lv_at hl 0 rfl) ?_
        refine lv_if_ne (tgt := 604) hx hb dX12_goes_570 (by decide) (fun c => absurd (by decide) c) (fun _ => ?_)
        refine lv_aload_n hx hb dX12_goes_573 rfl (lv_at hl 1 rfl) ?_
        refine va_get (D := D) (ci := 12) (v := .ref (q 42)) (C := RX12) (T := TX12) (N := 52) hx hb hts (fun _ h => List.mem_cons_of_mem _ (List.mem_append_right _ h)) hown hK hP 0 rfl rfl 42 (by decide) (hts (.fieldLink RX12 123 "TemplateForgeModel" "register" "[I") (List.mem_of_getElem? (i := 10) rfl)) (fun _ h9 => h9) rfl dX12_goes_574 ?_
        refine lv_iload hx hb dX12_goes_577 (lv_at hl 4 rfl) ?_
        refine lv_iload hx hb dX12_goes_579 (lv_at hl 5 rfl) ?_
        refine lv_iadd hx hb dX12_goes_581 ?_
        refine lv_iconst (v := 2) hx hb dX12_goes_582 (by decide) ?_
        refine lv_isub hx hb dX12_goes_583 ?_
        refine lv_iload hx hb dX12_goes_584 (lv_at hl 3 rfl) ?_
        refine lv_aload_n hx hb dX12_goes_586 rfl (lv_at hl 1 rfl) ?_
        refine va_get (D := D) (ci := 12) (v := .ref (q 42)) (C := RX12) (T := TX12) (N := 52) hx hb hts (fun _ h => List.mem_cons_of_mem _ (List.mem_append_right _ h)) hown hK hP 0 rfl rfl 42 (by decide) (hts (.fieldLink RX12 123 "TemplateForgeModel" "register" "[I") (List.mem_of_getElem? (i := 10) rfl)) (fun _ h9 => h9) rfl dX12_goes_587 ?_
        refine lv_iload hx hb dX12_goes_590 (lv_at hl 4 rfl) ?_
        refine lv_iload hx hb dX12_goes_592 (lv_at hl 5 rfl) ?_
        refine lv_iadd hx hb dX12_goes_594 ?_
        refine lv_iconst (v := 2) hx hb dX12_goes_595 (by decide) ?_
        refine lv_isub hx hb dX12_goes_596 ?_
        have hin_4 := h.1
        have h := h.2
        refine va_iald hx hb hK hP 38 0 rfl rfl hin_4 dX12_goes_597 ?_
        refine lv_iload hx hb dX12_goes_598 (lv_at hl 6 rfl) ?_
        have hP0 : va_P D vwCl [] H := fun k q h => by simp at h
        refine vp_callSi (va_Run.run (va_runS (As := [.int x549_4, .int (S_549 42 ((x549_6 + x549_7) - 2 : Int32).toNatClampNeg), .int x549_8]) (rest := [.int ((x549_6 + x549_7) - 2), .ref (q 42)]) ⟨hx, hb, hml, hown, hts⟩ (zd_X12_sumOf l D cI cZ cP cF x549_4 (S_549 42 ((x549_6 + x549_7) - 2 : Int32).toNatClampNeg) x549_8  _ h) (va_cwS 3 hts zg_zd_X12_goes_zd_X12_sumOf_195 rfl rfl rfl (by decide +kernel) ⟨Nat.le_of_ble_eq_true rfl, Nat.le_of_ble_eq_true rfl⟩) ⟨zBR, fun U hU hW => ⟨rfl, by rw [hU]; exact hP0, hE.warm hW⟩⟩ rfl rfl hl.1 rfl (lv_room (Nat.le_of_ble_eq_true rfl)) dX12_goes_600 ⟨Nat.le_of_ble_eq_true rfl, Nat.le_of_ble_eq_true rfl⟩)) (fun r5 h => ?_)
        have hin_6 := h.1
        have h := h.2
        refine va_iast hx hb hK hP hD hS 38 0 rfl rfl hin_6 dX12_goes_603 (fun H locs hP hD hS => ?_)
        obtain ⟨S6, eS6⟩ : ∃ z, z = ms S_549 42 (upd (S_549 42) ((x549_6 + x549_7) - 2 : Int32).toNatClampNeg r5) := ⟨_, rfl⟩
        have hP : va_P D vwCl (mW cI cZ h0 q S6) H := by rw [eS6]; exact hP
        have hD : va_D A (mW cI cZ h0 q S6) := by rw [eS6]; exact hD
        have h := h S6 eS6
        exact J_604  S6 x549_3 0 H locs _ h hP hD hS (lv_sub hl [1, 2, 0] rfl)
      · have h := h.2 c_3
        refine lv_iload hx hb dX12_goes_556 (lv_at hl 5 rfl) ?_
        refine lv_if_ne (tgt := 565) hx hb dX12_goes_558 (by decide) (fun c_7 => ?_) (fun c_7 => ?_)
        · have h := h.1 c_7
          refine lv_iconst (v := 0) hx hb dX12_goes_565 (by decide) ?_
          refine lv_istore (lv' := [(9, .int 0), (0, .ref h0), (3, .int x549_3), (4, .int x549_4), (6, .int x549_6), (7, .int x549_7), (8, .int x549_8)]) hx hb dX12_goes_566 hl (by decide) rfl (fun ls hl => ?_)
          refine lv_iload hx hb dX12_goes_568 (lv_at hl 0 rfl) ?_
          refine lv_if_ne (tgt := 604) hx hb dX12_goes_570 (by decide) (fun c => absurd (by decide) c) (fun _ => ?_)
          refine lv_aload_n hx hb dX12_goes_573 rfl (lv_at hl 1 rfl) ?_
          refine va_get (D := D) (ci := 12) (v := .ref (q 42)) (C := RX12) (T := TX12) (N := 52) hx hb hts (fun _ h => List.mem_cons_of_mem _ (List.mem_append_right _ h)) hown hK hP 0 rfl rfl 42 (by decide) (hts (.fieldLink RX12 123 "TemplateForgeModel" "register" "[I") (List.mem_of_getElem? (i := 10) rfl)) (fun _ h9 => h9) rfl dX12_goes_574 ?_
          refine lv_iload hx hb dX12_goes_577 (lv_at hl 4 rfl) ?_
          refine lv_iload hx hb dX12_goes_579 (lv_at hl 5 rfl) ?_
          refine lv_iadd hx hb dX12_goes_581 ?_
          refine lv_iconst (v := 2) hx hb dX12_goes_582 (by decide) ?_
          refine lv_isub hx hb dX12_goes_583 ?_
          refine lv_iload hx hb dX12_goes_584 (lv_at hl 3 rfl) ?_
          refine lv_aload_n hx hb dX12_goes_586 rfl (lv_at hl 1 rfl) ?_
          refine va_get (D := D) (ci := 12) (v := .ref (q 42)) (C := RX12) (T := TX12) (N := 52) hx hb hts (fun _ h => List.mem_cons_of_mem _ (List.mem_append_right _ h)) hown hK hP 0 rfl rfl 42 (by decide) (hts (.fieldLink RX12 123 "TemplateForgeModel" "register" "[I") (List.mem_of_getElem? (i := 10) rfl)) (fun _ h9 => h9) rfl dX12_goes_587 ?_
          refine lv_iload hx hb dX12_goes_590 (lv_at hl 4 rfl) ?_
          refine lv_iload hx hb dX12_goes_592 (lv_at hl 5 rfl) ?_
          refine lv_iadd hx hb dX12_goes_594 ?_
          refine lv_iconst (v := 2) hx hb dX12_goes_595 (by decide) ?_
          refine lv_isub hx hb dX12_goes_596 ?_
          have hin_8 := h.1
          have h := h.2
          refine va_iald hx hb hK hP 38 0 rfl rfl hin_8 dX12_goes_597 ?_
          refine lv_iload hx hb dX12_goes_598 (lv_at hl 6 rfl) ?_
          have hP0 : va_P D vwCl [] H := fun k q h => by simp at h
          refine vp_callSi (va_Run.run (va_runS (As := [.int x549_4, .int (S_549 42 ((x549_6 + x549_7) - 2 : Int32).toNatClampNeg), .int x549_8]) (rest := [.int ((x549_6 + x549_7) - 2), .ref (q 42)]) ⟨hx, hb, hml, hown, hts⟩ (zd_X12_sumOf l D cI cZ cP cF x549_4 (S_549 42 ((x549_6 + x549_7) - 2 : Int32).toNatClampNeg) x549_8  _ h) (va_cwS 3 hts zg_zd_X12_goes_zd_X12_sumOf_195 rfl rfl rfl (by decide +kernel) ⟨Nat.le_of_ble_eq_true rfl, Nat.le_of_ble_eq_true rfl⟩) ⟨zBR, fun U hU hW => ⟨rfl, by rw [hU]; exact hP0, hE.warm hW⟩⟩ rfl rfl hl.1 rfl (lv_room (Nat.le_of_ble_eq_true rfl)) dX12_goes_600 ⟨Nat.le_of_ble_eq_true rfl, Nat.le_of_ble_eq_true rfl⟩)) (fun r9 h => ?_)
          have hin_10 := h.1
          have h := h.2
          refine va_iast hx hb hK hP hD hS 38 0 rfl rfl hin_10 dX12_goes_603 (fun H locs hP hD hS => ?_)
          obtain ⟨S10, eS10⟩ : ∃ z, z = ms S_549 42 (upd (S_549 42) ((x549_6 + x549_7) - 2 : Int32).toNatClampNeg r9) := ⟨_, rfl⟩
          have hP : va_P D vwCl (mW cI cZ h0 q S10) H := by rw [eS10]; exact hP
          have hD : va_D A (mW cI cZ h0 q S10) := by rw [eS10]; exact hD
          have h := h S10 eS10
          exact J_604  S10 x549_3 0 H locs _ h hP hD hS (lv_sub hl [1, 2, 0] rfl)
        · have h := h.2 c_7
          refine lv_iconst (v := 1) hx hb dX12_goes_561 (by decide) ?_
          refine lv_goto (tgt := 566) hx hb dX12_goes_562 (by decide) ?_
          refine lv_istore (lv' := [(9, .int 1), (0, .ref h0), (3, .int x549_3), (4, .int x549_4), (6, .int x549_6), (7, .int x549_7), (8, .int x549_8)]) hx hb dX12_goes_566 hl (by decide) rfl (fun ls hl => ?_)
          refine lv_iload hx hb dX12_goes_568 (lv_at hl 0 rfl) ?_
          refine lv_if_ne (tgt := 604) hx hb dX12_goes_570 (by decide) (fun _ => ?_) (fun c => absurd c (by decide))
          exact J_604  S_549 x549_3 1 H locs _ h hP hD hS (lv_sub hl [1, 2, 0] rfl)
    have J_134 : ∀ (S_134 : MST) (x134_1 : Int32) (x134_3 : Int32) (x134_4 : Int32) (x134_5 : Int32) (x134_6 : Int32) (x134_7 : Int32) (x134_8 : Int32) (x134_9 : Int32) (H : Heap) (locs : List Loc) (ls : Array Slot), wj_X12_goes_134 S_134 x134_1 x134_3 x134_4 x134_5 x134_6 x134_7 x134_8 x134_9 Post → va_P D vwCl (mW cI cZ h0 q S_134) H → va_D A (mW cI cZ h0 q S_134) → va_S A s.heap H locs → lv_has ls 10 [(0, .ref h0), (1, .int x134_1), (3, .int x134_3), (4, .int x134_4), (5, .int x134_5), (6, .int x134_6), (7, .int x134_7), (8, .int x134_8), (9, .int x134_9)] → W p l e (headSpec zw_zd_X12_goes ({ frames := 7, cells := 0, slots := 0, locals := 165 })).room s m ([.ref h0] : List Value).toArray below meth c H locs 0 0 (MQ below (va_Qv (fun S' => Post S') (fun (S' : MST) t => va_P D vwCl (mW cI cZ h0 q S') t.heap ∧ va_D A (mW cI cZ h0 q S')) A) ([.ref h0] : List Value).toArray s 0 0 A) (F0 m 134 ls []) := by
      intro S_134 x134_1 x134_3 x134_4 x134_5 x134_6 x134_7 x134_8 x134_9 H locs ls h hP hD hS hl
      unfold wj_X12_goes_134 at h
      refine lv_iload hx hb dX12_goes_134 (lv_at hl 3 rfl) ?_
      rcases zt_0_19 x134_4 with h_out | h_in | h_in | h_in | h_in | h_in | h_in | h_in | h_in | h_in | h_in | h_in | h_in | h_in | h_in | h_in | h_in | h_in | h_in | h_in | h_in
      · have h := h.1 h_out
        refine lv_tableOut (tgt := 549) hx hb dX12_goes_136 h_out (by decide) ?_
        exact J_549  S_134 x134_3 x134_4 x134_6 x134_7 x134_8 H locs _ h hP hD hS (lv_sub hl [0, 2, 3, 5, 6, 7] rfl)
      · have h := h.2.1 h_in
        refine lv_tableIn (off := 96) (tgt := 232) hx hb dX12_goes_136 (by rw [h_in]; decide) (by rw [h_in]; decide) (by rw [h_in]; decide) (by decide) ?_
        refine lv_aload_n hx hb dX12_goes_232 rfl (lv_at hl 0 rfl) ?_
        refine va_get (D := D) (ci := 12) (v := .ref (q 42)) (C := RX12) (T := TX12) (N := 52) hx hb hts (fun _ h => List.mem_cons_of_mem _ (List.mem_append_right _ h)) hown hK hP 0 rfl rfl 42 (by decide) (hts (.fieldLink RX12 123 "TemplateForgeModel" "register" "[I") (List.mem_of_getElem? (i := 10) rfl)) (fun _ h9 => h9) rfl dX12_goes_233 ?_
        refine lv_iload hx hb dX12_goes_236 (lv_at hl 5 rfl) ?_
        refine lv_iload hx hb dX12_goes_238 (lv_at hl 6 rfl) ?_
        refine lv_iadd hx hb dX12_goes_240 ?_
        refine lv_iload hx hb dX12_goes_241 (lv_at hl 4 rfl) ?_
        have hin_11 := h.1
        have h := h.2
        refine va_iast hx hb hK hP hD hS 38 0 rfl rfl hin_11 dX12_goes_243 (fun H locs hP hD hS => ?_)
        obtain ⟨S11, eS11⟩ : ∃ z, z = ms S_134 42 (upd (S_134 42) (x134_6 + x134_7 : Int32).toNatClampNeg x134_5) := ⟨_, rfl⟩
        have hP : va_P D vwCl (mW cI cZ h0 q S11) H := by rw [eS11]; exact hP
        have hD : va_D A (mW cI cZ h0 q S11) := by rw [eS11]; exact hD
        have h := h S11 eS11
        refine lv_goto (tgt := 604) hx hb dX12_goes_244 (by decide) ?_
        exact J_604  S11 x134_3 x134_9 H locs _ h hP hD hS (lv_sub hl [0, 2, 8] rfl)
      · have h := h.2.2.1 h_in
        refine lv_tableIn (off := 111) (tgt := 247) hx hb dX12_goes_136 (by rw [h_in]; decide) (by rw [h_in]; decide) (by rw [h_in]; decide) (by decide) ?_
        refine lv_aload_n hx hb dX12_goes_247 rfl (lv_at hl 0 rfl) ?_
        refine va_get (D := D) (ci := 12) (v := .ref (q 42)) (C := RX12) (T := TX12) (N := 52) hx hb hts (fun _ h => List.mem_cons_of_mem _ (List.mem_append_right _ h)) hown hK hP 0 rfl rfl 42 (by decide) (hts (.fieldLink RX12 123 "TemplateForgeModel" "register" "[I") (List.mem_of_getElem? (i := 10) rfl)) (fun _ h9 => h9) rfl dX12_goes_248 ?_
        refine lv_iload hx hb dX12_goes_251 (lv_at hl 5 rfl) ?_
        refine lv_iload hx hb dX12_goes_253 (lv_at hl 6 rfl) ?_
        refine lv_iadd hx hb dX12_goes_255 ?_
        refine lv_aload_n hx hb dX12_goes_256 rfl (lv_at hl 0 rfl) ?_
        refine va_get (D := D) (ci := 12) (v := .ref (q 42)) (C := RX12) (T := TX12) (N := 52) hx hb hts (fun _ h => List.mem_cons_of_mem _ (List.mem_append_right _ h)) hown hK hP 0 rfl rfl 42 (by decide) (hts (.fieldLink RX12 123 "TemplateForgeModel" "register" "[I") (List.mem_of_getElem? (i := 10) rfl)) (fun _ h9 => h9) rfl dX12_goes_257 ?_
        refine lv_bipush (v := 15) hx hb dX12_goes_260 (by decide) ?_
        refine lv_iload_n hx hb dX12_goes_262 rfl (lv_at hl 1 rfl) ?_
        refine lv_imul hx hb dX12_goes_263 ?_
        refine lv_iload hx hb dX12_goes_264 (lv_at hl 4 rfl) ?_
        refine lv_iadd hx hb dX12_goes_266 ?_
        have hin_12 := h.1
        have h := h.2
        refine va_iald hx hb hK hP 38 0 rfl rfl hin_12 dX12_goes_267 ?_
        have hin_13 := h.1
        have h := h.2
        refine va_iast hx hb hK hP hD hS 38 0 rfl rfl hin_13 dX12_goes_268 (fun H locs hP hD hS => ?_)
        obtain ⟨S13, eS13⟩ : ∃ z, z = ms S_134 42 (upd (S_134 42) (x134_6 + x134_7 : Int32).toNatClampNeg (S_134 42 ((15 * x134_1) + x134_5 : Int32).toNatClampNeg)) := ⟨_, rfl⟩
        have hP : va_P D vwCl (mW cI cZ h0 q S13) H := by rw [eS13]; exact hP
        have hD : va_D A (mW cI cZ h0 q S13) := by rw [eS13]; exact hD
        have h := h S13 eS13
        refine lv_goto (tgt := 604) hx hb dX12_goes_269 (by decide) ?_
        exact J_604  S13 x134_3 x134_9 H locs _ h hP hD hS (lv_sub hl [0, 2, 8] rfl)
      · have h := h.2.2.2.1 h_in
        refine lv_tableIn (off := 136) (tgt := 272) hx hb dX12_goes_136 (by rw [h_in]; decide) (by rw [h_in]; decide) (by rw [h_in]; decide) (by decide) ?_
        refine lv_aload_n hx hb dX12_goes_272 rfl (lv_at hl 0 rfl) ?_
        refine va_get (D := D) (ci := 12) (v := .ref (q 42)) (C := RX12) (T := TX12) (N := 52) hx hb hts (fun _ h => List.mem_cons_of_mem _ (List.mem_append_right _ h)) hown hK hP 0 rfl rfl 42 (by decide) (hts (.fieldLink RX12 123 "TemplateForgeModel" "register" "[I") (List.mem_of_getElem? (i := 10) rfl)) (fun _ h9 => h9) rfl dX12_goes_273 ?_
        refine lv_bipush (v := 15) hx hb dX12_goes_276 (by decide) ?_
        refine lv_iload_n hx hb dX12_goes_278 rfl (lv_at hl 1 rfl) ?_
        refine lv_imul hx hb dX12_goes_279 ?_
        refine lv_iload hx hb dX12_goes_280 (lv_at hl 4 rfl) ?_
        refine lv_iadd hx hb dX12_goes_282 ?_
        refine lv_iload hx hb dX12_goes_283 (lv_at hl 7 rfl) ?_
        have hin_14 := h.1
        have h := h.2
        refine va_iast hx hb hK hP hD hS 38 0 rfl rfl hin_14 dX12_goes_285 (fun H locs hP hD hS => ?_)
        obtain ⟨S14, eS14⟩ : ∃ z, z = ms S_134 42 (upd (S_134 42) ((15 * x134_1) + x134_5 : Int32).toNatClampNeg x134_8) := ⟨_, rfl⟩
        have hP : va_P D vwCl (mW cI cZ h0 q S14) H := by rw [eS14]; exact hP
        have hD : va_D A (mW cI cZ h0 q S14) := by rw [eS14]; exact hD
        have h := h S14 eS14
        refine lv_goto (tgt := 604) hx hb dX12_goes_286 (by decide) ?_
        exact J_604  S14 x134_3 x134_9 H locs _ h hP hD hS (lv_sub hl [0, 2, 8] rfl)
      · have h := h.2.2.2.2.1 h_in
        refine lv_tableIn (off := 413) (tgt := 549) hx hb dX12_goes_136 (by rw [h_in]; decide) (by rw [h_in]; decide) (by rw [h_in]; decide) (by decide) ?_
        exact J_549  S_134 x134_3 x134_4 x134_6 x134_7 x134_8 H locs _ h hP hD hS (lv_sub hl [0, 2, 3, 5, 6, 7] rfl)
      · have h := h.2.2.2.2.2.1 h_in
        refine lv_tableIn (off := 413) (tgt := 549) hx hb dX12_goes_136 (by rw [h_in]; decide) (by rw [h_in]; decide) (by rw [h_in]; decide) (by decide) ?_
        exact J_549  S_134 x134_3 x134_4 x134_6 x134_7 x134_8 H locs _ h hP hD hS (lv_sub hl [0, 2, 3, 5, 6, 7] rfl)
      · have h := h.2.2.2.2.2.2.1 h_in
        refine lv_tableIn (off := 413) (tgt := 549) hx hb dX12_goes_136 (by rw [h_in]; decide) (by rw [h_in]; decide) (by rw [h_in]; decide) (by decide) ?_
        exact J_549  S_134 x134_3 x134_4 x134_6 x134_7 x134_8 H locs _ h hP hD hS (lv_sub hl [0, 2, 3, 5, 6, 7] rfl)
      · have h := h.2.2.2.2.2.2.2.1 h_in
        refine lv_tableIn (off := 413) (tgt := 549) hx hb dX12_goes_136 (by rw [h_in]; decide) (by rw [h_in]; decide) (by rw [h_in]; decide) (by decide) ?_
        exact J_549  S_134 x134_3 x134_4 x134_6 x134_7 x134_8 H locs _ h hP hD hS (lv_sub hl [0, 2, 3, 5, 6, 7] rfl)
      · have h := h.2.2.2.2.2.2.2.2.1 h_in
        refine lv_tableIn (off := 413) (tgt := 549) hx hb dX12_goes_136 (by rw [h_in]; decide) (by rw [h_in]; decide) (by rw [h_in]; decide) (by decide) ?_
        exact J_549  S_134 x134_3 x134_4 x134_6 x134_7 x134_8 H locs _ h hP hD hS (lv_sub hl [0, 2, 3, 5, 6, 7] rfl)
      · have h := h.2.2.2.2.2.2.2.2.2.1 h_in
        refine lv_tableIn (off := 413) (tgt := 549) hx hb dX12_goes_136 (by rw [h_in]; decide) (by rw [h_in]; decide) (by rw [h_in]; decide) (by decide) ?_
        exact J_549  S_134 x134_3 x134_4 x134_6 x134_7 x134_8 H locs _ h hP hD hS (lv_sub hl [0, 2, 3, 5, 6, 7] rfl)
      · have h := h.2.2.2.2.2.2.2.2.2.2.1 h_in
        refine lv_tableIn (off := 153) (tgt := 289) hx hb dX12_goes_136 (by rw [h_in]; decide) (by rw [h_in]; decide) (by rw [h_in]; decide) (by decide) ?_
        refine lv_iload hx hb dX12_goes_289 (lv_at hl 4 rfl) ?_
        refine lv_iload_n hx hb dX12_goes_291 rfl (lv_at hl 2 rfl) ?_
        refine lv_icmp_gt (tgt := 302) hx hb dX12_goes_292 (by decide) (fun c_15 => ?_) (fun c_15 => ?_)
        · have h := h.1 c_15
          refine lv_aload_n hx hb dX12_goes_302 rfl (lv_at hl 0 rfl) ?_
          refine va_get (D := D) (ci := 12) (v := .ref (q 39)) (C := RX12) (T := TX12) (N := 52) hx hb hts (fun _ h => List.mem_cons_of_mem _ (List.mem_append_right _ h)) hown hK hP 0 rfl rfl 39 (by decide) (hts (.fieldLink RX12 114 "TemplateForgeModel" "frameAt" "[I") (List.mem_of_getElem? (i := 14) rfl)) (fun _ h9 => h9) rfl dX12_goes_303 ?_
          refine lv_iload_n hx hb dX12_goes_306 rfl (lv_at hl 1 rfl) ?_
          refine lv_iload hx hb dX12_goes_307 (lv_at hl 4 rfl) ?_
          have hin_16 := h.1
          have h := h.2
          refine va_iast hx hb hK hP hD hS 35 0 rfl rfl hin_16 dX12_goes_309 (fun H locs hP hD hS => ?_)
          obtain ⟨S16, eS16⟩ : ∃ z, z = ms S_134 39 (upd (S_134 39) (x134_1 : Int32).toNatClampNeg x134_5) := ⟨_, rfl⟩
          have hP : va_P D vwCl (mW cI cZ h0 q S16) H := by rw [eS16]; exact hP
          have hD : va_D A (mW cI cZ h0 q S16) := by rw [eS16]; exact hD
          have h := h S16 eS16
          refine lv_goto (tgt := 604) hx hb dX12_goes_310 (by decide) ?_
          exact J_604  S16 x134_3 x134_9 H locs _ h hP hD hS (lv_sub hl [0, 2, 8] rfl)
        · have h := h.2 c_15
          refine lv_aload_n hx hb dX12_goes_295 rfl (lv_at hl 0 rfl) ?_
          have hFc := zm_free hD hS hA
          refine va_calli (va_runV (As := []) (rest := []) ⟨hx, hb, hml, hown, hts⟩ (zd_X12_stepOn l D cI cZ cP cF h0 q S_134  H.size _ h) (cwV 0 hts zg_zd_X12_goes_zd_X12_stepOn_242 rfl rfl rfl (by decide +kernel) ⟨Nat.le_of_ble_eq_true rfl, Nat.le_of_ble_eq_true rfl⟩) ⟨zBW, va_recv hK hP (ci := 12) (q0 := 0) rfl rfl, fun U hU hW => ⟨rfl, by rw [hU], by rw [hU]; exact hP, hE.warm hW, hD.weaken (fun _ _ _ _ => trivial)⟩⟩ rfl rfl hl.1 rfl (lv_room (Nat.le_of_ble_eq_true rfl)) dX12_goes_296 ⟨Nat.le_of_ble_eq_true rfl, Nat.le_of_ble_eq_true rfl⟩) hS (fun q _ h => hFc q h) hFc (fun r17 S17 t H locs ht hvm h hB hz1 hk1 hS => ?_)
          obtain ⟨hP, hD1⟩ := hB
          rw [ht] at hP
          have hD := hD1.weaken (fun k q _ hq => hFc q.1 hq)
          refine lv_if_eq (tgt := 604) hx hb dX12_goes_299 (by decide) (fun c_18 => ?_) (fun c_18 => ?_)
          · have h := h.1 c_18
            exact J_604  S17 x134_3 x134_9 H locs _ h hP hD hS (lv_sub hl [0, 2, 8] rfl)
          · have h := h.2 c_18
            refine lv_aload_n hx hb dX12_goes_302 rfl (lv_at hl 0 rfl) ?_
            refine va_get (D := D) (ci := 12) (v := .ref (q 39)) (C := RX12) (T := TX12) (N := 52) hx hb hts (fun _ h => List.mem_cons_of_mem _ (List.mem_append_right _ h)) hown hK hP 0 rfl rfl 39 (by decide) (hts (.fieldLink RX12 114 "TemplateForgeModel" "frameAt" "[I") (List.mem_of_getElem? (i := 14) rfl)) (fun _ h9 => h9) rfl dX12_goes_303 ?_
            refine lv_iload_n hx hb dX12_goes_306 rfl (lv_at hl 1 rfl) ?_
            refine lv_iload hx hb dX12_goes_307 (lv_at hl 4 rfl) ?_
            have hin_19 := h.1
            have h := h.2
            refine va_iast hx hb hK hP hD hS 35 0 rfl rfl hin_19 dX12_goes_309 (fun H locs hP hD hS => ?_)
            obtain ⟨S19, eS19⟩ : ∃ z, z = ms S17 39 (upd (S17 39) (x134_1 : Int32).toNatClampNeg x134_5) := ⟨_, rfl⟩
            have hP : va_P D vwCl (mW cI cZ h0 q S19) H := by rw [eS19]; exact hP
            have hD : va_D A (mW cI cZ h0 q S19) := by rw [eS19]; exact hD
            have h := h S19 eS19
            refine lv_goto (tgt := 604) hx hb dX12_goes_310 (by decide) ?_
            exact J_604  S19 x134_3 x134_9 H locs _ h hP hD hS (lv_sub hl [0, 2, 8] rfl)
      · have h := h.2.2.2.2.2.2.2.2.2.2.2.1 h_in
        refine lv_tableIn (off := 177) (tgt := 313) hx hb dX12_goes_136 (by rw [h_in]; decide) (by rw [h_in]; decide) (by rw [h_in]; decide) (by decide) ?_
        refine lv_iload hx hb dX12_goes_313 (lv_at hl 7 rfl) ?_
        refine lv_if_ne (tgt := 604) hx hb dX12_goes_315 (by decide) (fun c_20 => ?_) (fun c_20 => ?_)
        · have h := h.1 c_20
          exact J_604  S_134 x134_3 x134_9 H locs _ h hP hD hS (lv_sub hl [0, 2, 8] rfl)
        · have h := h.2 c_20
          refine lv_iload hx hb dX12_goes_318 (lv_at hl 4 rfl) ?_
          refine lv_iload_n hx hb dX12_goes_320 rfl (lv_at hl 2 rfl) ?_
          refine lv_icmp_gt (tgt := 331) hx hb dX12_goes_321 (by decide) (fun c_21 => ?_) (fun c_21 => ?_)
          · have h := h.1 c_21
            refine lv_aload_n hx hb dX12_goes_331 rfl (lv_at hl 0 rfl) ?_
            refine va_get (D := D) (ci := 12) (v := .ref (q 39)) (C := RX12) (T := TX12) (N := 52) hx hb hts (fun _ h => List.mem_cons_of_mem _ (List.mem_append_right _ h)) hown hK hP 0 rfl rfl 39 (by decide) (hts (.fieldLink RX12 114 "TemplateForgeModel" "frameAt" "[I") (List.mem_of_getElem? (i := 14) rfl)) (fun _ h9 => h9) rfl dX12_goes_332 ?_
            refine lv_iload_n hx hb dX12_goes_335 rfl (lv_at hl 1 rfl) ?_
            refine lv_iload hx hb dX12_goes_336 (lv_at hl 4 rfl) ?_
            have hin_22 := h.1
            have h := h.2
            refine va_iast hx hb hK hP hD hS 35 0 rfl rfl hin_22 dX12_goes_338 (fun H locs hP hD hS => ?_)
            obtain ⟨S22, eS22⟩ : ∃ z, z = ms S_134 39 (upd (S_134 39) (x134_1 : Int32).toNatClampNeg x134_5) := ⟨_, rfl⟩
            have hP : va_P D vwCl (mW cI cZ h0 q S22) H := by rw [eS22]; exact hP
            have hD : va_D A (mW cI cZ h0 q S22) := by rw [eS22]; exact hD
            have h := h S22 eS22
            refine lv_goto (tgt := 604) hx hb dX12_goes_339 (by decide) ?_
            exact J_604  S22 x134_3 x134_9 H locs _ h hP hD hS (lv_sub hl [0, 2, 8] rfl)
          · have h := h.2 c_21
            refine lv_aload_n hx hb dX12_goes_324 rfl (lv_at hl 0 rfl) ?_
            have hFc := zm_free hD hS hA
            refine va_calli (va_runV (As := []) (rest := []) ⟨hx, hb, hml, hown, hts⟩ (zd_X12_stepOn l D cI cZ cP cF h0 q S_134  H.size _ h) (cwV 0 hts zg_zd_X12_goes_zd_X12_stepOn_242 rfl rfl rfl (by decide +kernel) ⟨Nat.le_of_ble_eq_true rfl, Nat.le_of_ble_eq_true rfl⟩) ⟨zBW, va_recv hK hP (ci := 12) (q0 := 0) rfl rfl, fun U hU hW => ⟨rfl, by rw [hU], by rw [hU]; exact hP, hE.warm hW, hD.weaken (fun _ _ _ _ => trivial)⟩⟩ rfl rfl hl.1 rfl (lv_room (Nat.le_of_ble_eq_true rfl)) dX12_goes_325 ⟨Nat.le_of_ble_eq_true rfl, Nat.le_of_ble_eq_true rfl⟩) hS (fun q _ h => hFc q h) hFc (fun r23 S23 t H locs ht hvm h hB hz1 hk1 hS => ?_)
            obtain ⟨hP, hD1⟩ := hB
            rw [ht] at hP
            have hD := hD1.weaken (fun k q _ hq => hFc q.1 hq)
            refine lv_if_eq (tgt := 604) hx hb dX12_goes_328 (by decide) (fun c_24 => ?_) (fun c_24 => ?_)
            · have h := h.1 c_24
              exact J_604  S23 x134_3 x134_9 H locs _ h hP hD hS (lv_sub hl [0, 2, 8] rfl)
            · have h := h.2 c_24
              refine lv_aload_n hx hb dX12_goes_331 rfl (lv_at hl 0 rfl) ?_
              refine va_get (D := D) (ci := 12) (v := .ref (q 39)) (C := RX12) (T := TX12) (N := 52) hx hb hts (fun _ h => List.mem_cons_of_mem _ (List.mem_append_right _ h)) hown hK hP 0 rfl rfl 39 (by decide) (hts (.fieldLink RX12 114 "TemplateForgeModel" "frameAt" "[I") (List.mem_of_getElem? (i := 14) rfl)) (fun _ h9 => h9) rfl dX12_goes_332 ?_
              refine lv_iload_n hx hb dX12_goes_335 rfl (lv_at hl 1 rfl) ?_
              refine lv_iload hx hb dX12_goes_336 (lv_at hl 4 rfl) ?_
              have hin_25 := h.1
              have h := h.2
              refine va_iast hx hb hK hP hD hS 35 0 rfl rfl hin_25 dX12_goes_338 (fun H locs hP hD hS => ?_)
              obtain ⟨S25, eS25⟩ : ∃ z, z = ms S23 39 (upd (S23 39) (x134_1 : Int32).toNatClampNeg x134_5) := ⟨_, rfl⟩
              have hP : va_P D vwCl (mW cI cZ h0 q S25) H := by rw [eS25]; exact hP
              have hD : va_D A (mW cI cZ h0 q S25) := by rw [eS25]; exact hD
              have h := h S25 eS25
              refine lv_goto (tgt := 604) hx hb dX12_goes_339 (by decide) ?_
              exact J_604  S25 x134_3 x134_9 H locs _ h hP hD hS (lv_sub hl [0, 2, 8] rfl)
      · have h := h.2.2.2.2.2.2.2.2.2.2.2.2.1 h_in
        refine lv_tableIn (off := 206) (tgt := 342) hx hb dX12_goes_136 (by rw [h_in]; decide) (by rw [h_in]; decide) (by rw [h_in]; decide) (by decide) ?_
        refine lv_aload_n hx hb dX12_goes_342 rfl (lv_at hl 0 rfl) ?_
        refine va_get (D := D) (ci := 12) (v := .ref (q 39)) (C := RX12) (T := TX12) (N := 52) hx hb hts (fun _ h => List.mem_cons_of_mem _ (List.mem_append_right _ h)) hown hK hP 0 rfl rfl 39 (by decide) (hts (.fieldLink RX12 114 "TemplateForgeModel" "frameAt" "[I") (List.mem_of_getElem? (i := 14) rfl)) (fun _ h9 => h9) rfl dX12_goes_343 ?_
        refine lv_iload_n hx hb dX12_goes_346 rfl (lv_at hl 1 rfl) ?_
        refine lv_iload_n hx hb dX12_goes_347 rfl (lv_at hl 2 rfl) ?_
        have hin_26 := h.1
        have h := h.2
        refine va_iast hx hb hK hP hD hS 35 0 rfl rfl hin_26 dX12_goes_348 (fun H locs hP hD hS => ?_)
        obtain ⟨S26, eS26⟩ : ∃ z, z = ms S_134 39 (upd (S_134 39) (x134_1 : Int32).toNatClampNeg x134_3) := ⟨_, rfl⟩
        have hP : va_P D vwCl (mW cI cZ h0 q S26) H := by rw [eS26]; exact hP
        have hD : va_D A (mW cI cZ h0 q S26) := by rw [eS26]; exact hD
        have h := h S26 eS26
        refine lv_aload_n hx hb dX12_goes_349 rfl (lv_at hl 0 rfl) ?_
        refine lv_iload hx hb dX12_goes_350 (lv_at hl 4 rfl) ?_
        refine lv_aload_n hx hb dX12_goes_352 rfl (lv_at hl 0 rfl) ?_
        refine va_get (D := D) (ci := 12) (v := .ref (q 42)) (C := RX12) (T := TX12) (N := 52) hx hb hts (fun _ h => List.mem_cons_of_mem _ (List.mem_append_right _ h)) hown hK hP 0 rfl rfl 42 (by decide) (hts (.fieldLink RX12 123 "TemplateForgeModel" "register" "[I") (List.mem_of_getElem? (i := 10) rfl)) (fun _ h9 => h9) rfl dX12_goes_353 ?_
        refine lv_iload hx hb dX12_goes_356 (lv_at hl 5 rfl) ?_
        refine lv_iload hx hb dX12_goes_358 (lv_at hl 6 rfl) ?_
        refine lv_iadd hx hb dX12_goes_360 ?_
        refine lv_aload_n hx hb dX12_goes_361 rfl (lv_at hl 0 rfl) ?_
        refine va_get (D := D) (ci := 12) (v := .ref (q 1)) (C := RX12) (T := TX12) (N := 52) hx hb hts (fun _ h => List.mem_cons_of_mem _ (List.mem_append_right _ h)) hown hK hP 0 rfl rfl 1 (by decide) (hts (.fieldLink RX12 7 "TemplateForgeModel" "args" "[I") (List.mem_of_getElem? (i := 20) rfl)) (fun _ h9 => h9) rfl dX12_goes_362 ?_
        refine lv_iload hx hb dX12_goes_365 (lv_at hl 4 rfl) ?_
        have hin_27 := h.1
        have h := h.2
        refine va_iald hx hb hK hP 1 0 rfl rfl hin_27 dX12_goes_367 ?_
        refine lv_isub hx hb dX12_goes_368 ?_
        refine lv_iload_n hx hb dX12_goes_369 rfl (lv_at hl 2 rfl) ?_
        have hFc := zm_free hD hS hA
        refine va_callv (va_runV (As := [.int x134_5, .ref (q 42), .int ((x134_6 + x134_7) - (S26 1 (x134_5 : Int32).toNatClampNeg)), .int x134_3]) (rest := []) ⟨hx, hb, hml, hown, hts⟩ (zd_X12_call_r l D cI cZ cP cF h0 q S26 x134_5 ((x134_6 + x134_7) - (S26 1 (x134_5 : Int32).toNatClampNeg)) x134_3 H.size _ h) (cwV 4 hts zg_zd_X12_goes_zd_X12_call_r_262 rfl rfl rfl (by decide +kernel) ⟨Nat.le_of_ble_eq_true rfl, Nat.le_of_ble_eq_true rfl⟩) ⟨zBW, va_recv hK hP (ci := 12) (q0 := 0) rfl rfl, fun U hU hW => ⟨rfl, by rw [hU], by rw [hU]; exact hP, hE.warm hW, hD.weaken (fun _ _ _ _ => trivial)⟩⟩ rfl rfl hl.1 rfl (lv_room (Nat.le_of_ble_eq_true rfl)) dX12_goes_370 ⟨Nat.le_of_ble_eq_true rfl, Nat.le_of_ble_eq_true rfl⟩) hS (fun q _ h => hFc q h) hFc (fun S28 t H locs ht hvm h hB hz1 hk1 hS => ?_)
        obtain ⟨hP, hD1⟩ := hB
        rw [ht] at hP
        have hD := hD1.weaken (fun k q _ hq => hFc q.1 hq)
        refine lv_goto (tgt := 604) hx hb dX12_goes_373 (by decide) ?_
        exact J_604  S28 x134_3 x134_9 H locs _ h hP hD hS (lv_sub hl [0, 2, 8] rfl)
      · have h := h.2.2.2.2.2.2.2.2.2.2.2.2.2.1 h_in
        refine lv_tableIn (off := 240) (tgt := 376) hx hb dX12_goes_136 (by rw [h_in]; decide) (by rw [h_in]; decide) (by rw [h_in]; decide) (by decide) ?_
        refine lv_aload_n hx hb dX12_goes_376 rfl (lv_at hl 0 rfl) ?_
        refine lv_iload hx hb dX12_goes_377 (lv_at hl 7 rfl) ?_
        have hFc := zm_free hD hS hA
        refine va_callv (va_runV (As := [.int x134_8]) (rest := []) ⟨hx, hb, hml, hown, hts⟩ (zd_X12_returns l D cI cZ cP cF h0 q S_134 x134_8 H.size _ h) (cwV 1 hts zg_zd_X12_goes_zd_X12_returns_266 rfl rfl rfl (by decide +kernel) ⟨Nat.le_of_ble_eq_true rfl, Nat.le_of_ble_eq_true rfl⟩) ⟨zBW, va_recv hK hP (ci := 12) (q0 := 0) rfl rfl, fun U hU hW => ⟨rfl, by rw [hU], by rw [hU]; exact hP, hE.warm hW, hD.weaken (fun _ _ _ _ => trivial)⟩⟩ rfl rfl hl.1 rfl (lv_room (Nat.le_of_ble_eq_true rfl)) dX12_goes_379 ⟨Nat.le_of_ble_eq_true rfl, Nat.le_of_ble_eq_true rfl⟩) hS (fun q _ h => hFc q h) hFc (fun S29 t H locs ht hvm h hB hz1 hk1 hS => ?_)
        obtain ⟨hP, hD1⟩ := hB
        rw [ht] at hP
        have hD := hD1.weaken (fun k q _ hq => hFc q.1 hq)
        refine lv_goto (tgt := 604) hx hb dX12_goes_382 (by decide) ?_
        exact J_604  S29 x134_3 x134_9 H locs _ h hP hD hS (lv_sub hl [0, 2, 8] rfl)
      · have h := h.2.2.2.2.2.2.2.2.2.2.2.2.2.2.1 h_in
        refine lv_tableIn (off := 249) (tgt := 385) hx hb dX12_goes_136 (by rw [h_in]; decide) (by rw [h_in]; decide) (by rw [h_in]; decide) (by decide) ?_
        refine lv_aload_n hx hb dX12_goes_385 rfl (lv_at hl 0 rfl) ?_
        refine va_get (D := D) (ci := 12) (v := .ref (q 42)) (C := RX12) (T := TX12) (N := 52) hx hb hts (fun _ h => List.mem_cons_of_mem _ (List.mem_append_right _ h)) hown hK hP 0 rfl rfl 42 (by decide) (hts (.fieldLink RX12 123 "TemplateForgeModel" "register" "[I") (List.mem_of_getElem? (i := 10) rfl)) (fun _ h9 => h9) rfl dX12_goes_386 ?_
        refine lv_iload hx hb dX12_goes_389 (lv_at hl 5 rfl) ?_
        refine lv_iload hx hb dX12_goes_391 (lv_at hl 6 rfl) ?_
        refine lv_iadd hx hb dX12_goes_393 ?_
        refine lv_aload_n hx hb dX12_goes_394 rfl (lv_at hl 0 rfl) ?_
        refine va_get (D := D) (ci := 12) (v := .ref (q 12)) (C := RX12) (T := TX12) (N := 52) hx hb hts (fun _ h => List.mem_cons_of_mem _ (List.mem_append_right _ h)) hown hK hP 0 rfl rfl 12 (by decide) (hts (.fieldLink RX12 41 "TemplateForgeModel" "fields" "[I") (List.mem_of_getElem? (i := 27) rfl)) (fun _ h9 => h9) rfl dX12_goes_395 ?_
        refine lv_iload hx hb dX12_goes_398 (lv_at hl 4 rfl) ?_
        have hin_30 := h.1
        have h := h.2
        refine va_iald hx hb hK hP 11 0 rfl rfl hin_30 dX12_goes_400 ?_
        have hin_31 := h.1
        have h := h.2
        refine va_iast hx hb hK hP hD hS 38 0 rfl rfl hin_31 dX12_goes_401 (fun H locs hP hD hS => ?_)
        obtain ⟨S31, eS31⟩ : ∃ z, z = ms S_134 42 (upd (S_134 42) (x134_6 + x134_7 : Int32).toNatClampNeg (S_134 12 (x134_5 : Int32).toNatClampNeg)) := ⟨_, rfl⟩
        have hP : va_P D vwCl (mW cI cZ h0 q S31) H := by rw [eS31]; exact hP
        have hD : va_D A (mW cI cZ h0 q S31) := by rw [eS31]; exact hD
        have h := h S31 eS31
        refine lv_goto (tgt := 604) hx hb dX12_goes_402 (by decide) ?_
        exact J_604  S31 x134_3 x134_9 H locs _ h hP hD hS (lv_sub hl [0, 2, 8] rfl)
      · have h := h.2.2.2.2.2.2.2.2.2.2.2.2.2.2.2.1 h_in
        refine lv_tableIn (off := 269) (tgt := 405) hx hb dX12_goes_136 (by rw [h_in]; decide) (by rw [h_in]; decide) (by rw [h_in]; decide) (by decide) ?_
        refine lv_aload_n hx hb dX12_goes_405 rfl (lv_at hl 0 rfl) ?_
        refine va_get (D := D) (ci := 12) (v := .ref (q 12)) (C := RX12) (T := TX12) (N := 52) hx hb hts (fun _ h => List.mem_cons_of_mem _ (List.mem_append_right _ h)) hown hK hP 0 rfl rfl 12 (by decide) (hts (.fieldLink RX12 41 "TemplateForgeModel" "fields" "[I") (List.mem_of_getElem? (i := 27) rfl)) (fun _ h9 => h9) rfl dX12_goes_406 ?_
        refine lv_iload hx hb dX12_goes_409 (lv_at hl 4 rfl) ?_
        refine lv_iload hx hb dX12_goes_411 (lv_at hl 7 rfl) ?_
        have hin_32 := h.1
        have h := h.2
        refine va_iast hx hb hK hP hD hS 11 0 rfl rfl hin_32 dX12_goes_413 (fun H locs hP hD hS => ?_)
        obtain ⟨S32, eS32⟩ : ∃ z, z = ms S_134 12 (upd (S_134 12) (x134_5 : Int32).toNatClampNeg x134_8) := ⟨_, rfl⟩
        have hP : va_P D vwCl (mW cI cZ h0 q S32) H := by rw [eS32]; exact hP
        have hD : va_D A (mW cI cZ h0 q S32) := by rw [eS32]; exact hD
        have h := h S32 eS32
        refine lv_goto (tgt := 604) hx hb dX12_goes_414 (by decide) ?_
        exact J_604  S32 x134_3 x134_9 H locs _ h hP hD hS (lv_sub hl [0, 2, 8] rfl)
      · have h := h.2.2.2.2.2.2.2.2.2.2.2.2.2.2.2.2.1 h_in
        refine lv_tableIn (off := 281) (tgt := 417) hx hb dX12_goes_136 (by rw [h_in]; decide) (by rw [h_in]; decide) (by rw [h_in]; decide) (by decide) ?_
        refine lv_aload_n hx hb dX12_goes_417 rfl (lv_at hl 0 rfl) ?_
        refine lv_iload hx hb dX12_goes_418 (lv_at hl 4 rfl) ?_
        refine lv_iload hx hb dX12_goes_420 (lv_at hl 7 rfl) ?_
        have hFc := zm_free hD hS hA
        refine va_calli (va_runV (As := [.int x134_5, .int x134_8]) (rest := []) ⟨hx, hb, hml, hown, hts⟩ (zd_X12_makesRow l D cI cZ cP cF h0 q S_134 x134_5 x134_8 H.size _ h) (cwV 2 hts zg_zd_X12_goes_zd_X12_makesRow_269 rfl rfl rfl (by decide +kernel) ⟨Nat.le_of_ble_eq_true rfl, Nat.le_of_ble_eq_true rfl⟩) ⟨zBW, va_recv hK hP (ci := 12) (q0 := 0) rfl rfl, fun U hU hW => ⟨rfl, by rw [hU], by rw [hU]; exact hP, hE.warm hW, hD.weaken (fun _ _ _ _ => trivial)⟩⟩ rfl rfl hl.1 rfl (lv_room (Nat.le_of_ble_eq_true rfl)) dX12_goes_422 ⟨Nat.le_of_ble_eq_true rfl, Nat.le_of_ble_eq_true rfl⟩) hS (fun q _ h => hFc q h) hFc (fun r33 S33 t H locs ht hvm h hB hz1 hk1 hS => ?_)
        obtain ⟨hP, hD1⟩ := hB
        rw [ht] at hP
        have hD := hD1.weaken (fun k q _ hq => hFc q.1 hq)
        refine lv_istore (lv' := [(9, .int r33), (0, .ref h0), (1, .int x134_1), (3, .int x134_3), (4, .int x134_4), (5, .int x134_5), (6, .int x134_6), (7, .int x134_7), (8, .int x134_8)]) hx hb dX12_goes_425 hl (by decide) rfl (fun ls hl => ?_)
        refine lv_goto (tgt := 604) hx hb dX12_goes_427 (by decide) ?_
        exact J_604  S33 x134_3 r33 H locs _ h hP hD hS (lv_sub hl [1, 3, 0] rfl)
      · have h := h.2.2.2.2.2.2.2.2.2.2.2.2.2.2.2.2.2.1 h_in
        refine lv_tableIn (off := 294) (tgt := 430) hx hb dX12_goes_136 (by rw [h_in]; decide) (by rw [h_in]; decide) (by rw [h_in]; decide) (by decide) ?_
        refine lv_aload_n hx hb dX12_goes_430 rfl (lv_at hl 0 rfl) ?_
        refine lv_iload hx hb dX12_goes_431 (lv_at hl 4 rfl) ?_
        refine lv_iload hx hb dX12_goes_433 (lv_at hl 7 rfl) ?_
        refine vp_callSi (va_Run.run (va_runV (As := [.int x134_5, .int x134_8]) (rest := []) ⟨hx, hb, hml, hown, hts⟩ (zd_X12_refuses l D cI cZ cP cF h0 q S_134 x134_5 x134_8  _ h) (cwV 2 hts zg_zd_X12_goes_zd_X12_refuses_272 rfl rfl rfl (by decide +kernel) ⟨Nat.le_of_ble_eq_true rfl, Nat.le_of_ble_eq_true rfl⟩) ⟨zBR, va_recv hK hP (ci := 12) (q0 := 0) rfl rfl, fun U hU hW => ⟨rfl, by rw [hU]; exact hP, hE.warm hW⟩⟩ rfl rfl hl.1 rfl (lv_room (Nat.le_of_ble_eq_true rfl)) dX12_goes_435 ⟨Nat.le_of_ble_eq_true rfl, Nat.le_of_ble_eq_true rfl⟩)) (fun r34 h => ?_)
        refine lv_istore (lv' := [(9, .int r34), (0, .ref h0), (1, .int x134_1), (3, .int x134_3), (4, .int x134_4), (5, .int x134_5), (6, .int x134_6), (7, .int x134_7), (8, .int x134_8)]) hx hb dX12_goes_438 hl (by decide) rfl (fun ls hl => ?_)
        refine lv_aload_n hx hb dX12_goes_440 rfl (lv_at hl 1 rfl) ?_
        refine va_get (D := D) (ci := 12) (v := .ref (q 42)) (C := RX12) (T := TX12) (N := 52) hx hb hts (fun _ h => List.mem_cons_of_mem _ (List.mem_append_right _ h)) hown hK hP 0 rfl rfl 42 (by decide) (hts (.fieldLink RX12 123 "TemplateForgeModel" "register" "[I") (List.mem_of_getElem? (i := 10) rfl)) (fun _ h9 => h9) rfl dX12_goes_441 ?_
        refine lv_iload hx hb dX12_goes_444 (lv_at hl 6 rfl) ?_
        refine lv_iload hx hb dX12_goes_446 (lv_at hl 7 rfl) ?_
        refine lv_iadd hx hb dX12_goes_448 ?_
        refine lv_iconst (v := 1) hx hb dX12_goes_449 (by decide) ?_
        refine lv_isub hx hb dX12_goes_450 ?_
        refine lv_iload hx hb dX12_goes_451 (lv_at hl 0 rfl) ?_
        refine lv_if_ne (tgt := 472) hx hb dX12_goes_453 (by decide) (fun c_35 => ?_) (fun c_35 => ?_)
        · have h := h.1 c_35
          refine lv_iload hx hb dX12_goes_472 (lv_at hl 8 rfl) ?_
          have hin_36 := h.1
          have h := h.2
          refine va_iast hx hb hK hP hD hS 38 0 rfl rfl hin_36 dX12_goes_474 (fun H locs hP hD hS => ?_)
          obtain ⟨S36, eS36⟩ : ∃ z, z = ms S_134 42 (upd (S_134 42) ((x134_6 + x134_7) - 1 : Int32).toNatClampNeg x134_8) := ⟨_, rfl⟩
          have hP : va_P D vwCl (mW cI cZ h0 q S36) H := by rw [eS36]; exact hP
          have hD : va_D A (mW cI cZ h0 q S36) := by rw [eS36]; exact hD
          have h := h S36 eS36
          refine lv_goto (tgt := 604) hx hb dX12_goes_475 (by decide) ?_
          exact J_604  S36 x134_3 r34 H locs _ h hP hD hS (lv_sub hl [1, 3, 0] rfl)
        · have h := h.2 c_35
          refine lv_aload_n hx hb dX12_goes_456 rfl (lv_at hl 1 rfl) ?_
          refine va_get (D := D) (ci := 12) (v := .ref (q 14)) (C := RX12) (T := TX12) (N := 52) hx hb hts (fun _ h => List.mem_cons_of_mem _ (List.mem_append_right _ h)) hown hK hP 0 rfl rfl 14 (by decide) (hts (.fieldLink RX12 47 "TemplateForgeModel" "rows" "[I") (List.mem_of_getElem? (i := 122) rfl)) (fun _ h9 => h9) rfl dX12_goes_457 ?_
          refine lv_bipush (v := 20) hx hb dX12_goes_460 (by decide) ?_
          refine lv_iload hx hb dX12_goes_462 (lv_at hl 5 rfl) ?_
          refine lv_imul hx hb dX12_goes_464 ?_
          refine lv_iload hx hb dX12_goes_465 (lv_at hl 8 rfl) ?_
          refine lv_iadd hx hb dX12_goes_467 ?_
          have hin_37 := h.1
          have h := h.2
          refine va_iald hx hb hK hP 13 0 rfl rfl hin_37 dX12_goes_468 ?_
          refine lv_goto (tgt := 474) hx hb dX12_goes_469 (by decide) ?_
          have hin_38 := h.1
          have h := h.2
          refine va_iast hx hb hK hP hD hS 38 0 rfl rfl hin_38 dX12_goes_474 (fun H locs hP hD hS => ?_)
          obtain ⟨S38, eS38⟩ : ∃ z, z = ms S_134 42 (upd (S_134 42) ((x134_6 + x134_7) - 1 : Int32).toNatClampNeg (S_134 14 ((20 * x134_5) + x134_8 : Int32).toNatClampNeg)) := ⟨_, rfl⟩
          have hP : va_P D vwCl (mW cI cZ h0 q S38) H := by rw [eS38]; exact hP
          have hD : va_D A (mW cI cZ h0 q S38) := by rw [eS38]; exact hD
          have h := h S38 eS38
          refine lv_goto (tgt := 604) hx hb dX12_goes_475 (by decide) ?_
          exact J_604  S38 x134_3 r34 H locs _ h hP hD hS (lv_sub hl [1, 3, 0] rfl)
      · have h := h.2.2.2.2.2.2.2.2.2.2.2.2.2.2.2.2.2.2.1 h_in
        refine lv_tableIn (off := 342) (tgt := 478) hx hb dX12_goes_136 (by rw [h_in]; decide) (by rw [h_in]; decide) (by rw [h_in]; decide) (by decide) ?_
        refine lv_aload_n hx hb dX12_goes_478 rfl (lv_at hl 0 rfl) ?_
        refine lv_iload hx hb dX12_goes_479 (lv_at hl 4 rfl) ?_
        refine lv_aload_n hx hb dX12_goes_481 rfl (lv_at hl 0 rfl) ?_
        refine va_get (D := D) (ci := 12) (v := .ref (q 42)) (C := RX12) (T := TX12) (N := 52) hx hb hts (fun _ h => List.mem_cons_of_mem _ (List.mem_append_right _ h)) hown hK hP 0 rfl rfl 42 (by decide) (hts (.fieldLink RX12 123 "TemplateForgeModel" "register" "[I") (List.mem_of_getElem? (i := 10) rfl)) (fun _ h9 => h9) rfl dX12_goes_482 ?_
        refine lv_iload hx hb dX12_goes_485 (lv_at hl 5 rfl) ?_
        refine lv_iload hx hb dX12_goes_487 (lv_at hl 6 rfl) ?_
        refine lv_iadd hx hb dX12_goes_489 ?_
        refine lv_iconst (v := 2) hx hb dX12_goes_490 (by decide) ?_
        refine lv_isub hx hb dX12_goes_491 ?_
        have hin_39 := h.1
        have h := h.2
        refine va_iald hx hb hK hP 38 0 rfl rfl hin_39 dX12_goes_492 ?_
        refine vp_callSi (va_Run.run (va_runV (As := [.int x134_5, .int (S_134 42 ((x134_6 + x134_7) - 2 : Int32).toNatClampNeg)]) (rest := []) ⟨hx, hb, hml, hown, hts⟩ (zd_X12_refuses l D cI cZ cP cF h0 q S_134 x134_5 (S_134 42 ((x134_6 + x134_7) - 2 : Int32).toNatClampNeg)  _ h) (cwV 2 hts zg_zd_X12_goes_zd_X12_refuses_272 rfl rfl rfl (by decide +kernel) ⟨Nat.le_of_ble_eq_true rfl, Nat.le_of_ble_eq_true rfl⟩) ⟨zBR, va_recv hK hP (ci := 12) (q0 := 0) rfl rfl, fun U hU hW => ⟨rfl, by rw [hU]; exact hP, hE.warm hW⟩⟩ rfl rfl hl.1 rfl (lv_room (Nat.le_of_ble_eq_true rfl)) dX12_goes_493 ⟨Nat.le_of_ble_eq_true rfl, Nat.le_of_ble_eq_true rfl⟩)) (fun r40 h => ?_)
        refine lv_istore (lv' := [(9, .int r40), (0, .ref h0), (1, .int x134_1), (3, .int x134_3), (4, .int x134_4), (5, .int x134_5), (6, .int x134_6), (7, .int x134_7), (8, .int x134_8)]) hx hb dX12_goes_496 hl (by decide) rfl (fun ls hl => ?_)
        refine lv_iload hx hb dX12_goes_498 (lv_at hl 0 rfl) ?_
        refine lv_if_ne (tgt := 604) hx hb dX12_goes_500 (by decide) (fun c_41 => ?_) (fun c_41 => ?_)
        · have h := h.1 c_41
          exact J_604  S_134 x134_3 r40 H locs _ h hP hD hS (lv_sub hl [1, 3, 0] rfl)
        · have h := h.2 c_41
          refine lv_aload_n hx hb dX12_goes_503 rfl (lv_at hl 1 rfl) ?_
          refine va_get (D := D) (ci := 12) (v := .ref (q 14)) (C := RX12) (T := TX12) (N := 52) hx hb hts (fun _ h => List.mem_cons_of_mem _ (List.mem_append_right _ h)) hown hK hP 0 rfl rfl 14 (by decide) (hts (.fieldLink RX12 47 "TemplateForgeModel" "rows" "[I") (List.mem_of_getElem? (i := 122) rfl)) (fun _ h9 => h9) rfl dX12_goes_504 ?_
          refine lv_bipush (v := 20) hx hb dX12_goes_507 (by decide) ?_
          refine lv_iload hx hb dX12_goes_509 (lv_at hl 5 rfl) ?_
          refine lv_imul hx hb dX12_goes_511 ?_
          refine lv_aload_n hx hb dX12_goes_512 rfl (lv_at hl 1 rfl) ?_
          refine va_get (D := D) (ci := 12) (v := .ref (q 42)) (C := RX12) (T := TX12) (N := 52) hx hb hts (fun _ h => List.mem_cons_of_mem _ (List.mem_append_right _ h)) hown hK hP 0 rfl rfl 42 (by decide) (hts (.fieldLink RX12 123 "TemplateForgeModel" "register" "[I") (List.mem_of_getElem? (i := 10) rfl)) (fun _ h9 => h9) rfl dX12_goes_513 ?_
          refine lv_iload hx hb dX12_goes_516 (lv_at hl 6 rfl) ?_
          refine lv_iload hx hb dX12_goes_518 (lv_at hl 7 rfl) ?_
          refine lv_iadd hx hb dX12_goes_520 ?_
          refine lv_iconst (v := 2) hx hb dX12_goes_521 (by decide) ?_
          refine lv_isub hx hb dX12_goes_522 ?_
          have hin_42 := h.1
          have h := h.2
          refine va_iald hx hb hK hP 38 0 rfl rfl hin_42 dX12_goes_523 ?_
          refine lv_iadd hx hb dX12_goes_524 ?_
          refine lv_iload hx hb dX12_goes_525 (lv_at hl 8 rfl) ?_
          have hin_43 := h.1
          have h := h.2
          refine va_iast hx hb hK hP hD hS 13 0 rfl rfl hin_43 dX12_goes_527 (fun H locs hP hD hS => ?_)
          obtain ⟨S43, eS43⟩ : ∃ z, z = ms S_134 14 (upd (S_134 14) ((20 * x134_5) + (S_134 42 ((x134_6 + x134_7) - 2 : Int32).toNatClampNeg) : Int32).toNatClampNeg x134_8) := ⟨_, rfl⟩
          have hP : va_P D vwCl (mW cI cZ h0 q S43) H := by rw [eS43]; exact hP
          have hD : va_D A (mW cI cZ h0 q S43) := by rw [eS43]; exact hD
          have h := h S43 eS43
          refine lv_goto (tgt := 604) hx hb dX12_goes_528 (by decide) ?_
          exact J_604  S43 x134_3 r40 H locs _ h hP hD hS (lv_sub hl [1, 3, 0] rfl)
      · have h := h.2.2.2.2.2.2.2.2.2.2.2.2.2.2.2.2.2.2.2.1 h_in
        refine lv_tableIn (off := 395) (tgt := 531) hx hb dX12_goes_136 (by rw [h_in]; decide) (by rw [h_in]; decide) (by rw [h_in]; decide) (by decide) ?_
        refine lv_aload_n hx hb dX12_goes_531 rfl (lv_at hl 0 rfl) ?_
        refine va_get (D := D) (ci := 12) (v := .ref (q 42)) (C := RX12) (T := TX12) (N := 52) hx hb hts (fun _ h => List.mem_cons_of_mem _ (List.mem_append_right _ h)) hown hK hP 0 rfl rfl 42 (by decide) (hts (.fieldLink RX12 123 "TemplateForgeModel" "register" "[I") (List.mem_of_getElem? (i := 10) rfl)) (fun _ h9 => h9) rfl dX12_goes_532 ?_
        refine lv_iload hx hb dX12_goes_535 (lv_at hl 5 rfl) ?_
        refine lv_iload hx hb dX12_goes_537 (lv_at hl 6 rfl) ?_
        refine lv_iadd hx hb dX12_goes_539 ?_
        refine lv_iload hx hb dX12_goes_540 (lv_at hl 7 rfl) ?_
        have hin_44 := h.1
        have h := h.2
        refine va_iast hx hb hK hP hD hS 38 0 rfl rfl hin_44 dX12_goes_542 (fun H locs hP hD hS => ?_)
        obtain ⟨S44, eS44⟩ : ∃ z, z = ms S_134 42 (upd (S_134 42) (x134_6 + x134_7 : Int32).toNatClampNeg x134_8) := ⟨_, rfl⟩
        have hP : va_P D vwCl (mW cI cZ h0 q S44) H := by rw [eS44]; exact hP
        have hD : va_D A (mW cI cZ h0 q S44) := by rw [eS44]; exact hD
        have h := h S44 eS44
        refine lv_goto (tgt := 604) hx hb dX12_goes_543 (by decide) ?_
        exact J_604  S44 x134_3 x134_9 H locs _ h hP hD hS (lv_sub hl [0, 2, 8] rfl)
      · have h := h.2.2.2.2.2.2.2.2.2.2.2.2.2.2.2.2.2.2.2.2 h_in
        refine lv_tableIn (off := 410) (tgt := 546) hx hb dX12_goes_136 (by rw [h_in]; decide) (by rw [h_in]; decide) (by rw [h_in]; decide) (by decide) ?_
        refine lv_goto (tgt := 604) hx hb dX12_goes_546 (by decide) ?_
        exact J_604  S_134 x134_3 x134_9 H locs _ h hP hD hS (lv_sub hl [0, 2, 8] rfl)
    have J_87 : ∀ (S_87 : MST) (x87_1 : Int32) (x87_3 : Int32) (x87_4 : Int32) (x87_5 : Int32) (x87_6 : Int32) (x87_7 : Int32) (x87_8 : Int32) (H : Heap) (locs : List Loc) (ls : Array Slot), wj_X12_goes_87 S_87 x87_1 x87_3 x87_4 x87_5 x87_6 x87_7 x87_8 Post → va_P D vwCl (mW cI cZ h0 q S_87) H → va_D A (mW cI cZ h0 q S_87) → va_S A s.heap H locs → lv_has ls 10 [(0, .ref h0), (1, .int x87_1), (3, .int x87_3), (4, .int x87_4), (5, .int x87_5), (6, .int x87_6), (7, .int x87_7), (8, .int x87_8)] → W p l e (headSpec zw_zd_X12_goes ({ frames := 7, cells := 0, slots := 0, locals := 165 })).room s m ([.ref h0] : List Value).toArray below meth c H locs 0 0 (MQ below (va_Qv (fun S' => Post S') (fun (S' : MST) t => va_P D vwCl (mW cI cZ h0 q S') t.heap ∧ va_D A (mW cI cZ h0 q S')) A) ([.ref h0] : List Value).toArray s 0 0 A) (F0 m 87 ls []) := by
      intro S_87 x87_1 x87_3 x87_4 x87_5 x87_6 x87_7 x87_8 H locs ls h hP hD hS hl
      unfold wj_X12_goes_87 at h
      refine lv_iconst (v := 0) hx hb dX12_goes_87 (by decide) ?_
      refine lv_istore (lv' := [(9, .int 0), (0, .ref h0), (1, .int x87_1), (3, .int x87_3), (4, .int x87_4), (5, .int x87_5), (6, .int x87_6), (7, .int x87_7), (8, .int x87_8)]) hx hb dX12_goes_88 hl (by decide) rfl (fun ls hl => ?_)
      refine lv_aload_n hx hb dX12_goes_90 rfl (lv_at hl 1 rfl) ?_
      refine va_get (D := D) (ci := 12) (v := .ref (q 39)) (C := RX12) (T := TX12) (N := 52) hx hb hts (fun _ h => List.mem_cons_of_mem _ (List.mem_append_right _ h)) hown hK hP 0 rfl rfl 39 (by decide) (hts (.fieldLink RX12 114 "TemplateForgeModel" "frameAt" "[I") (List.mem_of_getElem? (i := 14) rfl)) (fun _ h9 => h9) rfl dX12_goes_91 ?_
      refine lv_iload_n hx hb dX12_goes_94 rfl (lv_at hl 2 rfl) ?_
      refine lv_iload_n hx hb dX12_goes_95 rfl (lv_at hl 3 rfl) ?_
      refine lv_iconst (v := 1) hx hb dX12_goes_96 (by decide) ?_
      refine lv_iadd hx hb dX12_goes_97 ?_
      have hin_45 := h.1
      have h := h.2
      refine va_iast hx hb hK hP hD hS 35 0 rfl rfl hin_45 dX12_goes_98 (fun H locs hP hD hS => ?_)
      obtain ⟨S45, eS45⟩ : ∃ z, z = ms S_87 39 (upd (S_87 39) (x87_1 : Int32).toNatClampNeg (x87_3 + 1)) := ⟨_, rfl⟩
      have hP : va_P D vwCl (mW cI cZ h0 q S45) H := by rw [eS45]; exact hP
      have hD : va_D A (mW cI cZ h0 q S45) := by rw [eS45]; exact hD
      have h := h S45 eS45
      refine lv_aload_n hx hb dX12_goes_99 rfl (lv_at hl 1 rfl) ?_
      refine va_get (D := D) (ci := 12) (v := .ref (q 41)) (C := RX12) (T := TX12) (N := 52) hx hb hts (fun _ h => List.mem_cons_of_mem _ (List.mem_append_right _ h)) hown hK hP 0 rfl rfl 41 (by decide) (hts (.fieldLink RX12 120 "TemplateForgeModel" "frameDepth" "[I") (List.mem_of_getElem? (i := 22) rfl)) (fun _ h9 => h9) rfl dX12_goes_100 ?_
      refine lv_iload_n hx hb dX12_goes_103 rfl (lv_at hl 2 rfl) ?_
      refine lv_iload hx hb dX12_goes_104 (lv_at hl 4 rfl) ?_
      refine lv_bipush (v := 11) hx hb dX12_goes_106 (by decide) ?_
      refine lv_icmp_ne (tgt := 116) hx hb dX12_goes_108 (by decide) (fun c_46 => ?_) (fun c_46 => ?_)
      · have h := h.1 c_46
        refine lv_iload hx hb dX12_goes_116 (lv_at hl 7 rfl) ?_
        refine lv_aload_n hx hb dX12_goes_118 rfl (lv_at hl 1 rfl) ?_
        refine lv_iload hx hb dX12_goes_119 (lv_at hl 4 rfl) ?_
        refine lv_iload hx hb dX12_goes_121 (lv_at hl 5 rfl) ?_
        refine vp_callSi (va_Run.run (va_runV (As := [.int x87_4, .int x87_5]) (rest := [.int x87_7, .int x87_1, .ref (q 41)]) ⟨hx, hb, hml, hown, hts⟩ (zd_X12_takes l D cI cZ cP cF h0 q S45 x87_4 x87_5  _ h) (cwV 2 hts zg_zd_X12_goes_zd_X12_takes_156 rfl rfl rfl (by decide +kernel) ⟨Nat.le_of_ble_eq_true rfl, Nat.le_of_ble_eq_true rfl⟩) ⟨zBR, va_recv hK hP (ci := 12) (q0 := 0) rfl rfl, fun U hU hW => ⟨rfl, by rw [hU]; exact hP, hE.warm hW⟩⟩ rfl rfl hl.1 rfl (lv_room (Nat.le_of_ble_eq_true rfl)) dX12_goes_123 ⟨Nat.le_of_ble_eq_true rfl, Nat.le_of_ble_eq_true rfl⟩)) (fun r47 h => ?_)
        refine lv_isub hx hb dX12_goes_126 ?_
        refine lv_iload hx hb dX12_goes_127 (lv_at hl 4 rfl) ?_
        have hP0 : va_P D vwCl [] H := fun k q h => by simp at h
        refine vp_callSi (va_Run.run (va_runS (As := [.int x87_4]) (rest := [.int (x87_7 - r47), .int x87_1, .ref (q 41)]) ⟨hx, hb, hml, hown, hts⟩ (zd_X12_lays l D cI cZ cP cF x87_4  _ h) (va_cwS 1 hts zg_zd_X12_goes_zd_X12_lays_160 rfl rfl rfl (by decide +kernel) ⟨Nat.le_of_ble_eq_true rfl, Nat.le_of_ble_eq_true rfl⟩) ⟨zBR, fun U hU hW => ⟨rfl, by rw [hU]; exact hP0, hE.warm hW⟩⟩ rfl rfl hl.1 rfl (lv_room (Nat.le_of_ble_eq_true rfl)) dX12_goes_129 ⟨Nat.le_of_ble_eq_true rfl, Nat.le_of_ble_eq_true rfl⟩)) (fun r48 h => ?_)
        refine lv_iadd hx hb dX12_goes_132 ?_
        have hin_49 := h.1
        have h := h.2
        refine va_iast hx hb hK hP hD hS 37 0 rfl rfl hin_49 dX12_goes_133 (fun H locs hP hD hS => ?_)
        obtain ⟨S49, eS49⟩ : ∃ z, z = ms S45 41 (upd (S45 41) (x87_1 : Int32).toNatClampNeg ((x87_7 - r47) + r48)) := ⟨_, rfl⟩
        have hP : va_P D vwCl (mW cI cZ h0 q S49) H := by rw [eS49]; exact hP
        have hD : va_D A (mW cI cZ h0 q S49) := by rw [eS49]; exact hD
        have h := h S49 eS49
        exact J_134  S49 x87_1 x87_3 x87_4 x87_5 x87_6 x87_7 x87_8 0 H locs _ h hP hD hS (lv_sub hl [1, 2, 3, 4, 5, 6, 7, 8, 0] rfl)
      · have h := h.2 c_46
        refine lv_iload hx hb dX12_goes_111 (lv_at hl 7 rfl) ?_
        refine lv_goto (tgt := 133) hx hb dX12_goes_113 (by decide) ?_
        have hin_50 := h.1
        have h := h.2
        refine va_iast hx hb hK hP hD hS 37 0 rfl rfl hin_50 dX12_goes_133 (fun H locs hP hD hS => ?_)
        obtain ⟨S50, eS50⟩ : ∃ z, z = ms S45 41 (upd (S45 41) (x87_1 : Int32).toNatClampNeg x87_7) := ⟨_, rfl⟩
        have hP : va_P D vwCl (mW cI cZ h0 q S50) H := by rw [eS50]; exact hP
        have hD : va_D A (mW cI cZ h0 q S50) := by rw [eS50]; exact hD
        have h := h S50 eS50
        exact J_134  S50 x87_1 x87_3 x87_4 x87_5 x87_6 x87_7 x87_8 0 H locs _ h hP hD hS (lv_sub hl [1, 2, 3, 4, 5, 6, 7, 8, 0] rfl)
    refine lv_aload_n hx hb dX12_goes_0 rfl (lv_at hl 0 rfl) ?_
    refine va_get (D := D) (ci := 12) (v := .int (S 37 0)) (C := RX12) (T := TX12) (N := 52) hx hb hts (fun _ h => List.mem_cons_of_mem _ (List.mem_append_right _ h)) hown hK hP 0 rfl rfl 37 (by decide) (hts (.fieldLink RX12 236 "TemplateForgeModel" "open" "I") (List.mem_of_getElem? (i := 5) rfl)) (fun _ h9 => h9) rfl dX12_goes_1 ?_
    refine lv_iconst (v := 1) hx hb dX12_goes_4 (by decide) ?_
    refine lv_isub hx hb dX12_goes_5 ?_
    refine lv_istore_n (lv' := [(1, .int ((S 37 0) - 1)), (0, .ref h0)]) hx hb dX12_goes_6 rfl hl (by decide) rfl (fun ls hl => ?_)
    refine lv_aload_n hx hb dX12_goes_7 rfl (lv_at hl 1 rfl) ?_
    refine va_get (D := D) (ci := 12) (v := .ref (q 38)) (C := RX12) (T := TX12) (N := 52) hx hb hts (fun _ h => List.mem_cons_of_mem _ (List.mem_append_right _ h)) hown hK hP 0 rfl rfl 38 (by decide) (hts (.fieldLink RX12 111 "TemplateForgeModel" "frameMethod" "[I") (List.mem_of_getElem? (i := 4) rfl)) (fun _ h9 => h9) rfl dX12_goes_8 ?_
    refine lv_iload_n hx hb dX12_goes_11 rfl (lv_at hl 0 rfl) ?_
    have hin_51 := h.1
    have h := h.2
    refine va_iald hx hb hK hP 34 0 rfl rfl hin_51 dX12_goes_12 ?_
    refine lv_istore_n (lv' := [(2, .int (S 38 ((S 37 0) - 1 : Int32).toNatClampNeg)), (1, .int ((S 37 0) - 1)), (0, .ref h0)]) hx hb dX12_goes_13 rfl hl (by decide) rfl (fun ls hl => ?_)
    refine lv_aload_n hx hb dX12_goes_14 rfl (lv_at hl 2 rfl) ?_
    refine va_get (D := D) (ci := 12) (v := .ref (q 39)) (C := RX12) (T := TX12) (N := 52) hx hb hts (fun _ h => List.mem_cons_of_mem _ (List.mem_append_right _ h)) hown hK hP 0 rfl rfl 39 (by decide) (hts (.fieldLink RX12 114 "TemplateForgeModel" "frameAt" "[I") (List.mem_of_getElem? (i := 14) rfl)) (fun _ h9 => h9) rfl dX12_goes_15 ?_
    refine lv_iload_n hx hb dX12_goes_18 rfl (lv_at hl 1 rfl) ?_
    have hin_52 := h.1
    have h := h.2
    refine va_iald hx hb hK hP 35 0 rfl rfl hin_52 dX12_goes_19 ?_
    refine lv_istore_n (lv' := [(3, .int (S 39 ((S 37 0) - 1 : Int32).toNatClampNeg)), (2, .int (S 38 ((S 37 0) - 1 : Int32).toNatClampNeg)), (1, .int ((S 37 0) - 1)), (0, .ref h0)]) hx hb dX12_goes_20 rfl hl (by decide) rfl (fun ls hl => ?_)
    refine lv_aload_n hx hb dX12_goes_21 rfl (lv_at hl 3 rfl) ?_
    refine va_get (D := D) (ci := 12) (v := .ref (q 4)) (C := RX12) (T := TX12) (N := 52) hx hb hts (fun _ h => List.mem_cons_of_mem _ (List.mem_append_right _ h)) hown hK hP 0 rfl rfl 4 (by decide) (hts (.fieldLink RX12 19 "TemplateForgeModel" "op" "[I") (List.mem_of_getElem? (i := 46) rfl)) (fun _ h9 => h9) rfl dX12_goes_22 ?_
    refine lv_bipush (v := 60) hx hb dX12_goes_25 (by decide) ?_
    refine lv_iload_n hx hb dX12_goes_27 rfl (lv_at hl 1 rfl) ?_
    refine lv_imul hx hb dX12_goes_28 ?_
    refine lv_iload_n hx hb dX12_goes_29 rfl (lv_at hl 0 rfl) ?_
    refine lv_iadd hx hb dX12_goes_30 ?_
    have hin_53 := h.1
    have h := h.2
    refine va_iald hx hb hK hP 4 0 rfl rfl hin_53 dX12_goes_31 ?_
    refine lv_istore (lv' := [(4, .int (S 4 ((60 * (S 38 ((S 37 0) - 1 : Int32).toNatClampNeg)) + (S 39 ((S 37 0) - 1 : Int32).toNatClampNeg) : Int32).toNatClampNeg)), (3, .int (S 39 ((S 37 0) - 1 : Int32).toNatClampNeg)), (2, .int (S 38 ((S 37 0) - 1 : Int32).toNatClampNeg)), (1, .int ((S 37 0) - 1)), (0, .ref h0)]) hx hb dX12_goes_32 hl (by decide) rfl (fun ls hl => ?_)
    refine lv_aload_n hx hb dX12_goes_34 rfl (lv_at hl 4 rfl) ?_
    refine va_get (D := D) (ci := 12) (v := .ref (q 5)) (C := RX12) (T := TX12) (N := 52) hx hb hts (fun _ h => List.mem_cons_of_mem _ (List.mem_append_right _ h)) hown hK hP 0 rfl rfl 5 (by decide) (hts (.fieldLink RX12 22 "TemplateForgeModel" "operand" "[I") (List.mem_of_getElem? (i := 47) rfl)) (fun _ h9 => h9) rfl dX12_goes_35 ?_
    refine lv_bipush (v := 60) hx hb dX12_goes_38 (by decide) ?_
    refine lv_iload_n hx hb dX12_goes_40 rfl (lv_at hl 2 rfl) ?_
    refine lv_imul hx hb dX12_goes_41 ?_
    refine lv_iload_n hx hb dX12_goes_42 rfl (lv_at hl 1 rfl) ?_
    refine lv_iadd hx hb dX12_goes_43 ?_
    have hin_54 := h.1
    have h := h.2
    refine va_iald hx hb hK hP 5 0 rfl rfl hin_54 dX12_goes_44 ?_
    refine lv_istore (lv' := [(5, .int (S 5 ((60 * (S 38 ((S 37 0) - 1 : Int32).toNatClampNeg)) + (S 39 ((S 37 0) - 1 : Int32).toNatClampNeg) : Int32).toNatClampNeg)), (4, .int (S 4 ((60 * (S 38 ((S 37 0) - 1 : Int32).toNatClampNeg)) + (S 39 ((S 37 0) - 1 : Int32).toNatClampNeg) : Int32).toNatClampNeg)), (3, .int (S 39 ((S 37 0) - 1 : Int32).toNatClampNeg)), (2, .int (S 38 ((S 37 0) - 1 : Int32).toNatClampNeg)), (1, .int ((S 37 0) - 1)), (0, .ref h0)]) hx hb dX12_goes_45 hl (by decide) rfl (fun ls hl => ?_)
    refine lv_bipush (v := 15) hx hb dX12_goes_47 (by decide) ?_
    refine lv_iload_n hx hb dX12_goes_49 rfl (lv_at hl 4 rfl) ?_
    refine lv_imul hx hb dX12_goes_50 ?_
    refine lv_bipush (v := 7) hx hb dX12_goes_51 (by decide) ?_
    refine lv_iadd hx hb dX12_goes_53 ?_
    refine lv_istore (lv' := [(6, .int ((15 * ((S 37 0) - 1)) + 7)), (5, .int (S 5 ((60 * (S 38 ((S 37 0) - 1 : Int32).toNatClampNeg)) + (S 39 ((S 37 0) - 1 : Int32).toNatClampNeg) : Int32).toNatClampNeg)), (4, .int (S 4 ((60 * (S 38 ((S 37 0) - 1 : Int32).toNatClampNeg)) + (S 39 ((S 37 0) - 1 : Int32).toNatClampNeg) : Int32).toNatClampNeg)), (3, .int (S 39 ((S 37 0) - 1 : Int32).toNatClampNeg)), (2, .int (S 38 ((S 37 0) - 1 : Int32).toNatClampNeg)), (1, .int ((S 37 0) - 1)), (0, .ref h0)]) hx hb dX12_goes_54 hl (by decide) rfl (fun ls hl => ?_)
    refine lv_aload_n hx hb dX12_goes_56 rfl (lv_at hl 6 rfl) ?_
    refine va_get (D := D) (ci := 12) (v := .ref (q 41)) (C := RX12) (T := TX12) (N := 52) hx hb hts (fun _ h => List.mem_cons_of_mem _ (List.mem_append_right _ h)) hown hK hP 0 rfl rfl 41 (by decide) (hts (.fieldLink RX12 120 "TemplateForgeModel" "frameDepth" "[I") (List.mem_of_getElem? (i := 22) rfl)) (fun _ h9 => h9) rfl dX12_goes_57 ?_
    refine lv_iload_n hx hb dX12_goes_60 rfl (lv_at hl 5 rfl) ?_
    have hin_55 := h.1
    have h := h.2
    refine va_iald hx hb hK hP 37 0 rfl rfl hin_55 dX12_goes_61 ?_
    refine lv_istore (lv' := [(7, .int (S 41 ((S 37 0) - 1 : Int32).toNatClampNeg)), (6, .int ((15 * ((S 37 0) - 1)) + 7)), (5, .int (S 5 ((60 * (S 38 ((S 37 0) - 1 : Int32).toNatClampNeg)) + (S 39 ((S 37 0) - 1 : Int32).toNatClampNeg) : Int32).toNatClampNeg)), (4, .int (S 4 ((60 * (S 38 ((S 37 0) - 1 : Int32).toNatClampNeg)) + (S 39 ((S 37 0) - 1 : Int32).toNatClampNeg) : Int32).toNatClampNeg)), (3, .int (S 39 ((S 37 0) - 1 : Int32).toNatClampNeg)), (2, .int (S 38 ((S 37 0) - 1 : Int32).toNatClampNeg)), (1, .int ((S 37 0) - 1)), (0, .ref h0)]) hx hb dX12_goes_62 hl (by decide) rfl (fun ls hl => ?_)
    refine lv_iload hx hb dX12_goes_64 (lv_at hl 0 rfl) ?_
    refine lv_if_le (tgt := 84) hx hb dX12_goes_66 (by decide) (fun c_56 => ?_) (fun c_56 => ?_)
    · have h := h.1 c_56
      refine lv_iconst (v := 0) hx hb dX12_goes_84 (by decide) ?_
      refine lv_istore (lv' := [(8, .int 0), (7, .int (S 41 ((S 37 0) - 1 : Int32).toNatClampNeg)), (6, .int ((15 * ((S 37 0) - 1)) + 7)), (5, .int (S 5 ((60 * (S 38 ((S 37 0) - 1 : Int32).toNatClampNeg)) + (S 39 ((S 37 0) - 1 : Int32).toNatClampNeg) : Int32).toNatClampNeg)), (4, .int (S 4 ((60 * (S 38 ((S 37 0) - 1 : Int32).toNatClampNeg)) + (S 39 ((S 37 0) - 1 : Int32).toNatClampNeg) : Int32).toNatClampNeg)), (3, .int (S 39 ((S 37 0) - 1 : Int32).toNatClampNeg)), (2, .int (S 38 ((S 37 0) - 1 : Int32).toNatClampNeg)), (1, .int ((S 37 0) - 1)), (0, .ref h0)]) hx hb dX12_goes_85 hl (by decide) rfl (fun ls hl => ?_)
      exact J_87  S ((S 37 0) - 1) (S 39 ((S 37 0) - 1 : Int32).toNatClampNeg) (S 4 ((60 * (S 38 ((S 37 0) - 1 : Int32).toNatClampNeg)) + (S 39 ((S 37 0) - 1 : Int32).toNatClampNeg) : Int32).toNatClampNeg) (S 5 ((60 * (S 38 ((S 37 0) - 1 : Int32).toNatClampNeg)) + (S 39 ((S 37 0) - 1 : Int32).toNatClampNeg) : Int32).toNatClampNeg) ((15 * ((S 37 0) - 1)) + 7) (S 41 ((S 37 0) - 1 : Int32).toNatClampNeg) 0 H locs _ h hP hD hS (lv_sub hl [8, 7, 5, 4, 3, 2, 1, 0] rfl)
    · have h := h.2 c_56
      refine lv_aload_n hx hb dX12_goes_69 rfl (lv_at hl 7 rfl) ?_
      refine va_get (D := D) (ci := 12) (v := .ref (q 42)) (C := RX12) (T := TX12) (N := 52) hx hb hts (fun _ h => List.mem_cons_of_mem _ (List.mem_append_right _ h)) hown hK hP 0 rfl rfl 42 (by decide) (hts (.fieldLink RX12 123 "TemplateForgeModel" "register" "[I") (List.mem_of_getElem? (i := 10) rfl)) (fun _ h9 => h9) rfl dX12_goes_70 ?_
      refine lv_iload hx hb dX12_goes_73 (lv_at hl 1 rfl) ?_
      refine lv_iload hx hb dX12_goes_75 (lv_at hl 0 rfl) ?_
      refine lv_iadd hx hb dX12_goes_77 ?_
      refine lv_iconst (v := 1) hx hb dX12_goes_78 (by decide) ?_
      refine lv_isub hx hb dX12_goes_79 ?_
      have hin_57 := h.1
      have h := h.2
      refine va_iald hx hb hK hP 38 0 rfl rfl hin_57 dX12_goes_80 ?_
      refine lv_goto (tgt := 85) hx hb dX12_goes_81 (by decide) ?_
      refine lv_istore (lv' := [(8, .int (S 42 ((((15 * ((S 37 0) - 1)) + 7) + (S 41 ((S 37 0) - 1 : Int32).toNatClampNeg)) - 1 : Int32).toNatClampNeg)), (7, .int (S 41 ((S 37 0) - 1 : Int32).toNatClampNeg)), (6, .int ((15 * ((S 37 0) - 1)) + 7)), (5, .int (S 5 ((60 * (S 38 ((S 37 0) - 1 : Int32).toNatClampNeg)) + (S 39 ((S 37 0) - 1 : Int32).toNatClampNeg) : Int32).toNatClampNeg)), (4, .int (S 4 ((60 * (S 38 ((S 37 0) - 1 : Int32).toNatClampNeg)) + (S 39 ((S 37 0) - 1 : Int32).toNatClampNeg) : Int32).toNatClampNeg)), (3, .int (S 39 ((S 37 0) - 1 : Int32).toNatClampNeg)), (2, .int (S 38 ((S 37 0) - 1 : Int32).toNatClampNeg)), (1, .int ((S 37 0) - 1)), (0, .ref h0)]) hx hb dX12_goes_85 hl (by decide) rfl (fun ls hl => ?_)
      exact J_87  S ((S 37 0) - 1) (S 39 ((S 37 0) - 1 : Int32).toNatClampNeg) (S 4 ((60 * (S 38 ((S 37 0) - 1 : Int32).toNatClampNeg)) + (S 39 ((S 37 0) - 1 : Int32).toNatClampNeg) : Int32).toNatClampNeg) (S 5 ((60 * (S 38 ((S 37 0) - 1 : Int32).toNatClampNeg)) + (S 39 ((S 37 0) - 1 : Int32).toNatClampNeg) : Int32).toNatClampNeg) ((15 * ((S 37 0) - 1)) + 7) (S 41 ((S 37 0) - 1 : Int32).toNatClampNeg) (S 42 ((((15 * ((S 37 0) - 1)) + 7) + (S 41 ((S 37 0) - 1 : Int32).toNatClampNeg)) - 1 : Int32).toNatClampNeg) H locs _ h hP hD hS (lv_sub hl [8, 7, 5, 4, 3, 2, 1, 0] rfl)
  exact key _ _ hP va_S.rf
