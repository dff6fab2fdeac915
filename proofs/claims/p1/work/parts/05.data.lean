def zw_zc_X0_at : List Cond := .code yX0_at cX0_at 2 (some (.object "TemplateForge$Program")) :: ([.fieldLink RX0 17 "TemplateForge$Book" "told" "I"] ++ wsX00)
set_option maxHeartbeats 4000000 in
set_option maxRecDepth 100000 in
theorem zc_X0_at (l : Launch) (D : va_G) (cI cZ cP cF : Nat) (h0 p1 : Nat) (m0 : Int32) : Met l yX0_at zw_zc_X0_at ({ frames := 0, cells := 0, slots := 0, locals := 0 }) (va_Pc [.ref h0, .int m0] (fun U => va_P D vwCl [(h0, .inr (0, [.ref p1, .int 0]))] U.heap ∧ zE D cI cZ cP cF U)) (va_Sq (fun r => r = none)) 0 0 (fun _ => False) := by
  refine Met.ofW (cc := cX0_at) (maxL := 2) (ret := (some (.object "TemplateForge$Program"))) (by decide) rfl ?_
  intro p e s m args below meth c s₁ B hml hv
  obtain ⟨rfl, hP, hE⟩ := hv
  have hx := B.exec
  have hb := B.bytes
  have hr := B.returns
  have hts := atoms_spec (ws := zw_zc_X0_at) B.pre
  have hown : s.vm.findClass RX0 = some m.cls := findClass_of_methodNamed B.named
  have hlocks := B.notSynchronized
  have hK := hE.k
  have hP : va_P D vwCl [(h0, .inr (0, [.ref p1, .int 0]))] s.heap := hP
  have hl := lv_entry ([.ref h0, .int m0]) (n := 2) (Nat.le_of_ble_eq_true rfl)
  rw [lg_entry_eq]
  generalize (lg_sl ([.ref h0, .int m0]) ++ List.replicate (2 - (lg_sl ([.ref h0, .int m0])).length) Slot.unset).toArray = ls at hl ⊢
  have hl : lv_has ls 2 [(0, .ref h0), (1, .int m0)] := hl
  refine lv_iload_n hx hb dX0_at_0 rfl (lv_at hl 1 rfl) ?_
  refine lv_if_lt (tgt := 27) hx hb dX0_at_1 (by decide) (fun c_1 => ?_) (fun c_1 => ?_)
  · refine lv_null hx hb dX0_at_27 ?_
    exact W.aret hx hb hr (Or.inl ⟨_, rfl⟩) (Or.inl rfl) (fun t ht hW => ⟨none, rfl, rfl, ht⟩) (fun q h => by cases h) dX0_at_28
  · refine lv_iload_n hx hb dX0_at_4 rfl (lv_at hl 1 rfl) ?_
    refine lv_aload_n hx hb dX0_at_5 rfl (lv_at hl 0 rfl) ?_
    refine va_get (D := D) (ci := 0) (v := .int 0) (C := RX0) (T := TX0) (N := 2) hx hb hts (fun _ h => List.mem_cons_of_mem _ (List.mem_append_right _ h)) hown hK hP 0 rfl rfl 1 (by decide) (hts (.fieldLink RX0 17 "TemplateForge$Book" "told" "I") (List.mem_of_getElem? (i := 1) rfl)) (fun _ h9 => h9) rfl dX0_at_6 ?_
    refine lv_icmp_ge (tgt := 27) hx hb dX0_at_9 (by decide) (fun c_9 => ?_) (fun c_9 => absurd (Int32.not_lt.mp c_1) c_9)
    refine lv_null hx hb dX0_at_27 ?_
    exact W.aret hx hb hr (Or.inl ⟨_, rfl⟩) (Or.inl rfl) (fun t ht hW => ⟨none, rfl, rfl, ht⟩) (fun q h => by cases h) dX0_at_28

def zw_zc_X0_tell : List Cond := .code yX0_tell cX0_tell 3 (some .int) :: ([.fieldLink RX0 17 "TemplateForge$Book" "told" "I", .fieldLink RX0 11 "TemplateForge$Book" "programs" "[LTemplateForge$Program;", .classLink RX0 9 RX8, .instantiable RX8 10, .initialized RX8, .code yX8_init cX8_init 4 none, .methodLink RX8 3 objectInit, .instanceMethod objectInit, .code objectInit ⟨#[0xb1]⟩ 1 none, .classLink RX8 9 RX5, .instantiable RX5 9, .initialized RX5, .code yX5_init cX5_init 1 none, .methodLink RX5 3 objectInit, .arrayClass .int, .fieldLink RX5 9 "TemplateForge$Heat" "first" "[I", .arrayClass .boolean, .fieldLink RX5 15 "TemplateForge$Heat" "same" "[Z", .fieldLink RX5 19 "TemplateForge$Heat" "varying" "[Z", .instanceMethod yX5_init, .fieldLink RX8 12 "TemplateForge$Program" "heat" "LTemplateForge$Heat;", .fieldLink RX8 18 "TemplateForge$Program" "ops" "[I", .fieldLink RX8 22 "TemplateForge$Program" "xs" "[I", .fieldLink RX8 25 "TemplateForge$Program" "depths" "[I", .fieldLink RX8 28 "TemplateForge$Program" "deepest" "I", .fieldLink RX8 32 "TemplateForge$Program" "number" "I", .fieldLink RX8 35 "TemplateForge$Program" "args" "I", .fieldLink RX8 38 "TemplateForge$Program" "locals" "I", .instanceMethod yX8_init, .methodLink RX0 21 yX8_init] ++ wsX00 ++ wsX80 ++ wsX50)
set_option maxRecDepth 100000 in
theorem zg_zc_X0_tell_zc_X8_init : GoodIn zw_zc_X0_tell zw_zc_X8_init := goodIn_r _ [6, 7, 8, 9, 10, 11, 12, 13, 14, 15, 16, 17, 18, 19, 20, 21, 22, 23, 24, 25, 26, 27, 28, 43, 44, 45, 46, 47, 48, 49, 50, 51, 33, 34, 35, 36, 37, 38, 39, 40, 41, 42] (by decide +kernel) (by decide +kernel)
set_option maxHeartbeats 4000000 in
set_option maxRecDepth 100000 in
theorem zc_X0_tell (l : Launch) (D : va_G) (cI cZ cP cF : Nat) (h0 p1 : Nat) (a0 l0 : Int32) (sz : Nat) : Met l yX0_tell zw_zc_X0_tell ({ frames := 3, cells := 8, slots := 232, locals := 55 }) (va_Pc [.ref h0, .int a0, .int l0] (fun U => U.heap.size = sz ∧ va_P D vwCl [(h0, .inr (0, [.ref p1, .int 0])), (p1, .inl (cP, 8, .inr (.inr (.inr (.inr (fun _ => none))))))] U.heap ∧ zE D cI cZ cP cF U ∧ va_D (fun _ => True) [(h0, .inr (0, [.ref p1, .int 0])), (p1, .inl (cP, 8, .inr (.inr (.inr (.inr (fun _ => none))))))])) (va_Qi (fun (r : Int32) (_ : Unit) => r = 0) (fun (_ : Unit) t => va_P D vwCl [] t.heap ∧ va_D (va_A [(h0, .inr (0, [.ref p1, .int 0])), (p1, .inl (cP, 8, .inr (.inr (.inr (.inr (fun _ => none))))))] sz) []) (va_A [(h0, .inr (0, [.ref p1, .int 0])), (p1, .inl (cP, 8, .inr (.inr (.inr (.inr (fun _ => none))))))] sz)) 8 232 (va_A [(h0, .inr (0, [.ref p1, .int 0])), (p1, .inl (cP, 8, .inr (.inr (.inr (.inr (fun _ => none))))))] sz) := by
  refine Met.ofW (cc := cX0_tell) (maxL := 3) (ret := (some .int)) (by decide) rfl ?_
  intro p e s m args below meth c s₁ B hml hv
  obtain ⟨rfl, hsz, hP, hE, hD0⟩ := hv
  have hx := B.exec
  have hb := B.bytes
  have hr := B.returns
  have hts := atoms_spec (ws := zw_zc_X0_tell) B.pre
  have hown : s.vm.findClass RX0 = some m.cls := findClass_of_methodNamed B.named
  have hlocks := B.notSynchronized
  have hK := hE.k
  subst hsz
  have hD := hD0.self (sz := s.heap.size)
  generalize hAe : va_A [(h0, .inr (0, [.ref p1, .int 0])), (p1, .inl (cP, 8, .inr (.inr (.inr (.inr (fun _ => none))))))] s.heap.size = A at hD ⊢
  have hA : ∀ q : Nat, s.heap.size ≤ q → A q := fun q h => by rw [← hAe]; exact Or.inr h
  have hS : va_S A s.heap s.heap [] := va_S.rf
  have hP : va_P D vwCl [(h0, .inr (0, [.ref p1, .int 0])), (p1, .inl (cP, 8, .inr (.inr (.inr (.inr (fun _ => none))))))] s.heap := hP
  have hl := lv_entry ([.ref h0, .int a0, .int l0]) (n := 3) (Nat.le_of_ble_eq_true rfl)
  rw [lg_entry_eq]
  generalize (lg_sl ([.ref h0, .int a0, .int l0]) ++ List.replicate (3 - (lg_sl ([.ref h0, .int a0, .int l0])).length) Slot.unset).toArray = ls at hl ⊢
  have hl : lv_has ls 3 [(0, .ref h0), (1, .int a0), (2, .int l0)] := hl
  refine lv_aload_n hx hb dX0_tell_0 rfl (lv_at hl 0 rfl) ?_
  refine va_get (D := D) (ci := 0) (v := .int 0) (C := RX0) (T := TX0) (N := 2) hx hb hts (fun _ h => List.mem_cons_of_mem _ (List.mem_append_left _ (List.mem_append_left _ (List.mem_append_right _ h)))) hown hK hP 0 rfl rfl 1 (by decide) (hts (.fieldLink RX0 17 "TemplateForge$Book" "told" "I") (List.mem_of_getElem? (i := 1) rfl)) (fun _ h9 => h9) rfl dX0_tell_1 ?_
  refine lv_bipush (v := 8) hx hb dX0_tell_4 (by decide) ?_
  refine lv_icmp_lt (tgt := 12) hx hb dX0_tell_6 (by decide) (fun _ => ?_) (fun c => absurd (by decide) c)
  refine lv_aload_n hx hb dX0_tell_12 rfl (lv_at hl 0 rfl) ?_
  refine va_get (D := D) (ci := 0) (v := .ref p1) (C := RX0) (T := TX0) (N := 2) hx hb hts (fun _ h => List.mem_cons_of_mem _ (List.mem_append_left _ (List.mem_append_left _ (List.mem_append_right _ h)))) hown hK hP 0 rfl rfl 0 (by decide) (hts (.fieldLink RX0 11 "TemplateForge$Book" "programs" "[LTemplateForge$Program;") (List.mem_of_getElem? (i := 2) rfl)) (fun _ h9 => h9) rfl dX0_tell_13 ?_
  refine lv_aload_n hx hb dX0_tell_16 rfl (lv_at hl 0 rfl) ?_
  refine va_get (D := D) (ci := 0) (v := .int 0) (C := RX0) (T := TX0) (N := 2) hx hb hts (fun _ h => List.mem_cons_of_mem _ (List.mem_append_left _ (List.mem_append_left _ (List.mem_append_right _ h)))) hown hK hP 0 rfl rfl 1 (by decide) (hts (.fieldLink RX0 17 "TemplateForge$Book" "told" "I") (List.mem_of_getElem? (i := 1) rfl)) (fun _ h9 => h9) rfl dX0_tell_17 ?_
  refine va_new (ci := 8) (fs := [.int 0, .int 0, .int 0, .null, .null, .null, .null, .int 0, .int 0, .null]) (C := RX8) (T := TX8) (N := 10) hx hb hts (fun _ h => List.mem_cons_of_mem _ (List.mem_append_left _ (List.mem_append_right _ h))) tyX8 tyX8_ok hown (hts (.classLink RX0 9 RX8) (List.mem_of_getElem? (i := 3) rfl)) (hts (.instantiable RX8 10) (List.mem_of_getElem? (i := 4) rfl)) (hts (.initialized RX8) (List.mem_of_getElem? (i := 5) rfl)) hK hP hD hS hA rfl (fun j hj => by rcases (show j = 0 ∨ j = 1 ∨ j = 2 ∨ j = 3 ∨ j = 4 ∨ j = 5 ∨ j = 6 ∨ j = 7 ∨ j = 8 ∨ j = 9 by omega) with rfl | rfl | rfl | rfl | rfl | rfl | rfl | rfl | rfl | rfl <;> rfl) (Nat.le_of_ble_eq_true rfl) (Nat.le_of_ble_eq_true rfl) dX0_tell_20 (fun q1 H hP hD hS => ?_)
  have hP : va_P D vwCl [(h0, .inr (0, [.ref p1, .int 0])), (p1, .inl (cP, 8, .inr (.inr (.inr (.inr (fun _ => none)))))), (q1, .inr (8, [.int 0, .int 0, .int 0, .null, .null, .null, .null, .int 0, .int 0, .null]))] H := hP
  have hD : va_D A [(h0, .inr (0, [.ref p1, .int 0])), (p1, .inl (cP, 8, .inr (.inr (.inr (.inr (fun _ => none)))))), (q1, .inr (8, [.int 0, .int 0, .int 0, .null, .null, .null, .null, .int 0, .int 0, .null]))] := hD
  refine lv_dup hx hb dX0_tell_23 rfl ?_
  refine lv_aload_n hx hb dX0_tell_24 rfl (lv_at hl 0 rfl) ?_
  refine va_get (D := D) (ci := 0) (v := .int 0) (C := RX0) (T := TX0) (N := 2) hx hb hts (fun _ h => List.mem_cons_of_mem _ (List.mem_append_left _ (List.mem_append_left _ (List.mem_append_right _ h)))) hown hK hP 0 rfl rfl 1 (by decide) (hts (.fieldLink RX0 17 "TemplateForge$Book" "told" "I") (List.mem_of_getElem? (i := 1) rfl)) (fun _ h9 => h9) rfl dX0_tell_25 ?_
  refine lv_iload_n hx hb dX0_tell_28 rfl (lv_at hl 1 rfl) ?_
  refine lv_iload_n hx hb dX0_tell_29 rfl (lv_at hl 2 rfl) ?_
  have hPc := hP.sub (ws' := [(q1, .inr (8, [.int 0, .int 0, .int 0, .null, .null, .null, .null, .int 0, .int 0, .null]))]) [2] rfl
  have hDc := hD.sub (ws' := [(q1, .inr (8, [.int 0, .int 0, .int 0, .null, .null, .null, .null, .int 0, .int 0, .null]))]) [2] (by decide) rfl
  have hFc := va_free (wc := [(q1, .inr (8, [.int 0, .int 0, .int 0, .null, .null, .null, .null, .int 0, .int 0, .null]))]) hD hS hA [2] rfl
  refine va_callv (va_runI (As := [.int 0, .int a0, .int l0]) (rest := [.ref q1, .int 0, .ref p1]) ⟨hx, hb, hml, hown, hts⟩ (zc_X8_init l D cI cZ cP cF q1 0 a0 l0 H.size) (cwI 3 hts zg_zc_X0_tell_zc_X8_init rfl rfl rfl (hts (.initialized RX8) (List.mem_of_getElem? (i := 5) rfl)) (hts (.methodLink RX0 21 yX8_init) (List.mem_of_getElem? (i := 30) rfl)) (hts (.instanceMethod yX8_init) (List.mem_of_getElem? (i := 29) rfl)) rfl (by decide +kernel) ⟨Nat.le_of_ble_eq_true rfl, Nat.le_of_ble_eq_true rfl⟩) ⟨zBW, fun U hU hW => ⟨rfl, by rw [hU], by rw [hU]; exact hPc, hE.warm hW, hDc.weaken (fun _ _ _ _ => trivial)⟩⟩ rfl rfl hl.1 rfl (lv_room (Nat.le_of_ble_eq_true rfl)) dX0_tell_30 ⟨Nat.le_of_ble_eq_true rfl, Nat.le_of_ble_eq_true rfl⟩) hS (fun q _ h => hFc q h) hFc (fun u t H1 locs ht hvm h_30_2 hB hz1 hk1 hS => ?_)
  obtain ⟨q3, q4, q5, q6, hP1, hD1⟩ := hB
  rw [ht] at hP1
  obtain ⟨hP, hD⟩ := va_join (wr := [(h0, .inr (0, [.ref p1, .int 0])), (p1, .inl (cP, 8, .inr (.inr (.inr (.inr (fun _ => none))))))]) (w1 := [(q1, .inr (8, [.int 0, .int a0, .int l0, .ref q3, .ref q4, .ref q5, .ref q6, .int 0, .int (-1), .null]))]) hP hD [2] [0, 1] rfl rfl (by decide) (by decide) hk1 hFc hP1 hD1
  generalize H1 = H at hP hS ⊢
  have hP : va_P D vwCl [(h0, .inr (0, [.ref p1, .int 0])), (p1, .inl (cP, 8, .inr (.inr (.inr (.inr (fun _ => none)))))), (q1, .inr (8, [.int 0, .int a0, .int l0, .ref q3, .ref q4, .ref q5, .ref q6, .int 0, .int (-1), .null]))] H := hP
  have hD : va_D A [(h0, .inr (0, [.ref p1, .int 0])), (p1, .inl (cP, 8, .inr (.inr (.inr (.inr (fun _ => none)))))), (q1, .inr (8, [.int 0, .int a0, .int l0, .ref q3, .ref q4, .ref q5, .ref q6, .int 0, .int (-1), .null]))] := hD
  have hin_33 : vp_in 0 8 := by unfold vp_in; decide
  refine va_astq hx hb hK hP hD hS 1 2 2 8 rfl rfl rfl rfl hin_33 dX0_tell_33 (fun H locs hP hD hS => ?_)
  have hP : va_P D vwCl [(h0, .inr (0, [.ref p1, .int 0])), (p1, .inl (cP, 8, .inr (.inr (.inr (.inr (va_up (fun _ => none) (0 : Int32).toNatClampNeg (some q1))))))), (q1, .inr (8, [.int 0, .int a0, .int l0, .ref q3, .ref q4, .ref q5, .ref q6, .int 0, .int (-1), .null]))] H := hP
  have hD : va_D A [(h0, .inr (0, [.ref p1, .int 0])), (p1, .inl (cP, 8, .inr (.inr (.inr (.inr (va_up (fun _ => none) (0 : Int32).toNatClampNeg (some q1))))))), (q1, .inr (8, [.int 0, .int a0, .int l0, .ref q3, .ref q4, .ref q5, .ref q6, .int 0, .int (-1), .null]))] := hD
  refine lv_aload_n hx hb dX0_tell_34 rfl (lv_at hl 0 rfl) ?_
  refine lv_dup hx hb dX0_tell_35 rfl ?_
  refine va_get (D := D) (ci := 0) (v := .int 0) (C := RX0) (T := TX0) (N := 2) hx hb hts (fun _ h => List.mem_cons_of_mem _ (List.mem_append_left _ (List.mem_append_left _ (List.mem_append_right _ h)))) hown hK hP 0 rfl rfl 1 (by decide) (hts (.fieldLink RX0 17 "TemplateForge$Book" "told" "I") (List.mem_of_getElem? (i := 1) rfl)) (fun _ h9 => h9) rfl dX0_tell_36 ?_
  refine lv_iconst (v := 1) hx hb dX0_tell_39 (by decide) ?_
  refine lv_iadd hx hb dX0_tell_40 ?_
  refine lv_topi (fun y_7 e_7 => ?_)
  obtain rfl : y_7 = 1 := by rw [e_7]; decide
  refine va_put (D := D) (ci := 0) (v := .int 1) (ty := .int) (C := RX0) (T := TX0) (N := 2) hx hb hts (fun _ h => List.mem_cons_of_mem _ (List.mem_append_left _ (List.mem_append_left _ (List.mem_append_right _ h)))) tyX0 tyX0_ok nmX0 hown hK hP hD hS 0 rfl rfl 1 (by decide) (hts (.fieldLink RX0 17 "TemplateForge$Book" "told" "I") (List.mem_of_getElem? (i := 1) rfl)) (fun _ h9 => h9) rfl (by decide +kernel) rfl rfl (Nat.le_of_ble_eq_true rfl) dX0_tell_41 (fun H locs hP hD hS => ?_)
  have hP : va_P D vwCl [(h0, .inr (0, [.ref p1, .int 1])), (p1, .inl (cP, 8, .inr (.inr (.inr (.inr (va_up (fun _ => none) (0 : Int32).toNatClampNeg (some q1))))))), (q1, .inr (8, [.int 0, .int a0, .int l0, .ref q3, .ref q4, .ref q5, .ref q6, .int 0, .int (-1), .null]))] H := hP
  have hD : va_D A [(h0, .inr (0, [.ref p1, .int 1])), (p1, .inl (cP, 8, .inr (.inr (.inr (.inr (va_up (fun _ => none) (0 : Int32).toNatClampNeg (some q1))))))), (q1, .inr (8, [.int 0, .int a0, .int l0, .ref q3, .ref q4, .ref q5, .ref q6, .int 0, .int (-1), .null]))] := hD
  refine lv_aload_n hx hb dX0_tell_44 rfl (lv_at hl 0 rfl) ?_
  refine va_get (D := D) (ci := 0) (v := .int 1) (C := RX0) (T := TX0) (N := 2) hx hb hts (fun _ h => List.mem_cons_of_mem _ (List.mem_append_left _ (List.mem_append_left _ (List.mem_append_right _ h)))) hown hK hP 0 rfl rfl 1 (by decide) (hts (.fieldLink RX0 17 "TemplateForge$Book" "told" "I") (List.mem_of_getElem? (i := 1) rfl)) (fun _ h9 => h9) rfl dX0_tell_45 ?_
  refine lv_iconst (v := 1) hx hb dX0_tell_48 (by decide) ?_
  refine lv_isub hx hb dX0_tell_49 ?_
  refine lv_topi (fun y_8 e_8 => ?_)
  obtain rfl : y_8 = 0 := by rw [e_8]; decide
  have hP9 := hP.sub (ws' := []) [] rfl
  have hD9 := hD.sub (ws' := []) [] (by decide) rfl
  refine W.widen (k := 8) (n := 232) (Nat.le_of_ble_eq_true rfl) (Nat.le_of_ble_eq_true rfl) ?_
  exact W.iret (v := 0) hx hb hr (fun t ht hW => ⟨⟨0, (), rfl, rfl, by rw [ht]; exact hP9, hD9⟩, hS.F ht⟩) hS.2.2 dX0_tell_50

def zw_zc_X2_valueOf : List Cond := .code yX2_valueOf cX2_valueOf 2 (some .int) :: ([.fieldLink RX2 9 "TemplateForge$Data" "fields" "[I"] ++ wsX20)
set_option maxHeartbeats 4000000 in
set_option maxRecDepth 100000 in
theorem zc_X2_valueOf (l : Launch) (D : va_G) (cI cZ cP cF : Nat) (h0 p1 p2 p3 : Nat) (k0 : Int32) : Met l yX2_valueOf zw_zc_X2_valueOf ({ frames := 0, cells := 0, slots := 0, locals := 0 }) (va_Pc [.ref h0, .int k0] (fun U => va_P D vwCl [(h0, .inr (2, [.ref p1, .ref p2, .ref p3])), (p1, .inl (cI, 8, .inl (fun _ => 0)))] U.heap ∧ zE D cI cZ cP cF U)) (vp_Si (fun r => r = 0)) 0 0 (fun _ => False) := by
  refine Met.ofW (cc := cX2_valueOf) (maxL := 2) (ret := (some .int)) (by decide) rfl ?_
  intro p e s m args below meth c s₁ B hml hv
  obtain ⟨rfl, hP, hE⟩ := hv
  have hx := B.exec
  have hb := B.bytes
  have hr := B.returns
  have hts := atoms_spec (ws := zw_zc_X2_valueOf) B.pre
  have hown : s.vm.findClass RX2 = some m.cls := findClass_of_methodNamed B.named
  have hlocks := B.notSynchronized
  have hK := hE.k
  have hP : va_P D vwCl [(h0, .inr (2, [.ref p1, .ref p2, .ref p3])), (p1, .inl (cI, 8, .inl (fun _ => 0)))] s.heap := hP
  have hl := lv_entry ([.ref h0, .int k0]) (n := 2) (Nat.le_of_ble_eq_true rfl)
  rw [lg_entry_eq]
  generalize (lg_sl ([.ref h0, .int k0]) ++ List.replicate (2 - (lg_sl ([.ref h0, .int k0])).length) Slot.unset).toArray = ls at hl ⊢
  have hl : lv_has ls 2 [(0, .ref h0), (1, .int k0)] := hl
  refine lv_iload_n hx hb dX2_valueOf_0 rfl (lv_at hl 1 rfl) ?_
  refine lv_if_lt (tgt := 19) hx hb dX2_valueOf_1 (by decide) (fun c_1 => ?_) (fun c_1 => ?_)
  · refine lv_iconst (v := 0) hx hb dX2_valueOf_19 (by decide) ?_
    exact W.iret (v := 0) hx hb hr (fun t ht hW => ⟨0, rfl, rfl, ht⟩) (fun q h => by cases h) dX2_valueOf_20
  · refine lv_iload_n hx hb dX2_valueOf_4 rfl (lv_at hl 1 rfl) ?_
    refine lv_bipush (v := 8) hx hb dX2_valueOf_5 (by decide) ?_
    refine lv_icmp_ge (tgt := 19) hx hb dX2_valueOf_7 (by decide) (fun c_7 => ?_) (fun c_7 => ?_)
    · refine lv_iconst (v := 0) hx hb dX2_valueOf_19 (by decide) ?_
      exact W.iret (v := 0) hx hb hr (fun t ht hW => ⟨0, rfl, rfl, ht⟩) (fun q h => by cases h) dX2_valueOf_20
    · refine lv_aload_n hx hb dX2_valueOf_10 rfl (lv_at hl 0 rfl) ?_
      refine va_get (D := D) (ci := 2) (v := .ref p1) (C := RX2) (T := TX2) (N := 3) hx hb hts (fun _ h => List.mem_cons_of_mem _ (List.mem_append_right _ h)) hown hK hP 0 rfl rfl 0 (by decide) (hts (.fieldLink RX2 9 "TemplateForge$Data" "fields" "[I") (List.mem_of_getElem? (i := 1) rfl)) (fun _ h9 => h9) rfl dX2_valueOf_11 ?_
      refine lv_iload_n hx hb dX2_valueOf_14 rfl (lv_at hl 1 rfl) ?_
      have hin_15 : vp_in k0 8 := z_in (M := 8) (by decide) c_1 c_7
      refine va_iald hx hb hK hP 1 0 rfl rfl hin_15 dX2_valueOf_15 ?_
      refine lv_topi (fun y_2 e_2 => ?_)
      obtain rfl : y_2 = 0 := e_2
      refine lv_goto (tgt := 20) hx hb dX2_valueOf_16 (by decide) ?_
      exact W.iret (v := 0) hx hb hr (fun t ht hW => ⟨0, rfl, rfl, ht⟩) (fun q h => by cases h) dX2_valueOf_20

def zw_zc_X2_put : List Cond := .code yX2_put cX2_put 3 none :: ([.fieldLink RX2 9 "TemplateForge$Data" "fields" "[I"] ++ wsX20)
set_option maxHeartbeats 4000000 in
set_option maxRecDepth 100000 in
theorem zc_X2_put (l : Launch) (D : va_G) (cI cZ cP cF : Nat) (h0 p1 p2 p3 : Nat) (k0 v0 : Int32) (sz : Nat) : Met l yX2_put zw_zc_X2_put ({ frames := 0, cells := 0, slots := 0, locals := 0 }) (va_Pc [.ref h0, .int k0, .int v0] (fun U => U.heap.size = sz ∧ va_P D vwCl [(h0, .inr (2, [.ref p1, .ref p2, .ref p3])), (p1, .inl (cI, 8, .inl (fun _ => 0)))] U.heap ∧ zE D cI cZ cP cF U ∧ va_D (fun _ => True) [(h0, .inr (2, [.ref p1, .ref p2, .ref p3])), (p1, .inl (cI, 8, .inl (fun _ => 0)))])) (va_Qv (fun (_ : Unit) => True) (fun (_ : Unit) t => va_P D vwCl [] t.heap ∧ va_D (va_A [(h0, .inr (2, [.ref p1, .ref p2, .ref p3])), (p1, .inl (cI, 8, .inl (fun _ => 0)))] sz) []) (va_A [(h0, .inr (2, [.ref p1, .ref p2, .ref p3])), (p1, .inl (cI, 8, .inl (fun _ => 0)))] sz)) 0 0 (va_A [(h0, .inr (2, [.ref p1, .ref p2, .ref p3])), (p1, .inl (cI, 8, .inl (fun _ => 0)))] sz) := by
  refine Met.ofW (cc := cX2_put) (maxL := 3) (ret := none) (by decide) rfl ?_
  intro p e s m args below meth c s₁ B hml hv
  obtain ⟨rfl, hsz, hP, hE, hD0⟩ := hv
  have hx := B.exec
  have hb := B.bytes
  have hr := B.returns
  have hts := atoms_spec (ws := zw_zc_X2_put) B.pre
  have hown : s.vm.findClass RX2 = some m.cls := findClass_of_methodNamed B.named
  have hlocks := B.notSynchronized
  have hK := hE.k
  subst hsz
  have hD := hD0.self (sz := s.heap.size)
  generalize hAe : va_A [(h0, .inr (2, [.ref p1, .ref p2, .ref p3])), (p1, .inl (cI, 8, .inl (fun _ => 0)))] s.heap.size = A at hD ⊢
  have hA : ∀ q : Nat, s.heap.size ≤ q → A q := fun q h => by rw [← hAe]; exact Or.inr h
  have hS : va_S A s.heap s.heap [] := va_S.rf
  have hP : va_P D vwCl [(h0, .inr (2, [.ref p1, .ref p2, .ref p3])), (p1, .inl (cI, 8, .inl (fun _ => 0)))] s.heap := hP
  have hl := lv_entry ([.ref h0, .int k0, .int v0]) (n := 3) (Nat.le_of_ble_eq_true rfl)
  rw [lg_entry_eq]
  generalize (lg_sl ([.ref h0, .int k0, .int v0]) ++ List.replicate (3 - (lg_sl ([.ref h0, .int k0, .int v0])).length) Slot.unset).toArray = ls at hl ⊢
  have hl : lv_has ls 3 [(0, .ref h0), (1, .int k0), (2, .int v0)] := hl
  refine lv_iload_n hx hb dX2_put_0 rfl (lv_at hl 1 rfl) ?_
  refine lv_if_lt (tgt := 17) hx hb dX2_put_1 (by decide) (fun c_1 => ?_) (fun c_1 => ?_)
  · have hP9 := hP.sub (ws' := []) [] rfl
    have hD9 := hD.sub (ws' := []) [] (by decide) rfl
    refine W.widen (k := 0) (n := 0) (Nat.le_of_ble_eq_true rfl) (Nat.le_of_ble_eq_true rfl) ?_
    exact W.vret hx hb hr (fun t ht hW => ⟨⟨(), rfl, trivial, by rw [ht]; exact hP9, hD9⟩, hS.F ht⟩) hS.2.2 dX2_put_17
  · refine lv_iload_n hx hb dX2_put_4 rfl (lv_at hl 1 rfl) ?_
    refine lv_bipush (v := 8) hx hb dX2_put_5 (by decide) ?_
    refine lv_icmp_ge (tgt := 17) hx hb dX2_put_7 (by decide) (fun c_7 => ?_) (fun c_7 => ?_)
    · have hP9 := hP.sub (ws' := []) [] rfl
      have hD9 := hD.sub (ws' := []) [] (by decide) rfl
      refine W.widen (k := 0) (n := 0) (Nat.le_of_ble_eq_true rfl) (Nat.le_of_ble_eq_true rfl) ?_
      exact W.vret hx hb hr (fun t ht hW => ⟨⟨(), rfl, trivial, by rw [ht]; exact hP9, hD9⟩, hS.F ht⟩) hS.2.2 dX2_put_17
    · refine lv_aload_n hx hb dX2_put_10 rfl (lv_at hl 0 rfl) ?_
      refine va_get (D := D) (ci := 2) (v := .ref p1) (C := RX2) (T := TX2) (N := 3) hx hb hts (fun _ h => List.mem_cons_of_mem _ (List.mem_append_right _ h)) hown hK hP 0 rfl rfl 0 (by decide) (hts (.fieldLink RX2 9 "TemplateForge$Data" "fields" "[I") (List.mem_of_getElem? (i := 1) rfl)) (fun _ h9 => h9) rfl dX2_put_11 ?_
      refine lv_iload_n hx hb dX2_put_14 rfl (lv_at hl 1 rfl) ?_
      refine lv_iload_n hx hb dX2_put_15 rfl (lv_at hl 2 rfl) ?_
      have hin_16 : vp_in k0 8 := z_in (M := 8) (by decide) c_1 c_7
      refine va_iast hx hb hK hP hD hS 1 0 rfl rfl hin_16 dX2_put_16 (fun H locs hP hD hS => ?_)
      have hP : va_P D vwCl [(h0, .inr (2, [.ref p1, .ref p2, .ref p3])), (p1, .inl (cI, 8, .inl (upd (fun _ => 0) (k0 : Int32).toNatClampNeg v0)))] H := hP
      have hD : va_D A [(h0, .inr (2, [.ref p1, .ref p2, .ref p3])), (p1, .inl (cI, 8, .inl (upd (fun _ => 0) (k0 : Int32).toNatClampNeg v0)))] := hD
      have hP9 := hP.sub (ws' := []) [] rfl
      have hD9 := hD.sub (ws' := []) [] (by decide) rfl
      refine W.widen (k := 0) (n := 0) (Nat.le_of_ble_eq_true rfl) (Nat.le_of_ble_eq_true rfl) ?_
      exact W.vret hx hb hr (fun t ht hW => ⟨⟨(), rfl, trivial, by rw [ht]; exact hP9, hD9⟩, hS.F ht⟩) hS.2.2 dX2_put_17

def zw_zc_X2_lengthOf : List Cond := .code yX2_lengthOf cX2_lengthOf 2 (some .int) :: ([.fieldLink RX2 15 "TemplateForge$Data" "lengths" "[I"] ++ wsX20)
set_option maxHeartbeats 4000000 in
set_option maxRecDepth 100000 in
theorem zc_X2_lengthOf (l : Launch) (D : va_G) (cI cZ cP cF : Nat) (h0 p1 p2 p3 : Nat) (g : Nat → Int32) (k0 : Int32) (hM : zM4 g) : Met l yX2_lengthOf zw_zc_X2_lengthOf ({ frames := 0, cells := 0, slots := 0, locals := 0 }) (va_Pc [.ref h0, .int k0] (fun U => va_P D vwCl [(h0, .inr (2, [.ref p1, .ref p2, .ref p3])), (p2, .inl (cI, 4, .inl g))] U.heap ∧ zE D cI cZ cP cF U)) (vp_Si (fun r => r = -1)) 0 0 (fun _ => False) := by
  refine Met.ofW (cc := cX2_lengthOf) (maxL := 2) (ret := (some .int)) (by decide) rfl ?_
  intro p e s m args below meth c s₁ B hml hv
  obtain ⟨rfl, hP, hE⟩ := hv
  have hx := B.exec
  have hb := B.bytes
  have hr := B.returns
  have hts := atoms_spec (ws := zw_zc_X2_lengthOf) B.pre
  have hown : s.vm.findClass RX2 = some m.cls := findClass_of_methodNamed B.named
  have hlocks := B.notSynchronized
  have hK := hE.k
  have hP : va_P D vwCl [(h0, .inr (2, [.ref p1, .ref p2, .ref p3])), (p2, .inl (cI, 4, .inl g))] s.heap := hP
  have hl := lv_entry ([.ref h0, .int k0]) (n := 2) (Nat.le_of_ble_eq_true rfl)
  rw [lg_entry_eq]
  generalize (lg_sl ([.ref h0, .int k0]) ++ List.replicate (2 - (lg_sl ([.ref h0, .int k0])).length) Slot.unset).toArray = ls at hl ⊢
  have hl : lv_has ls 2 [(0, .ref h0), (1, .int k0)] := hl
  refine lv_iload_n hx hb dX2_lengthOf_0 rfl (lv_at hl 1 rfl) ?_
  refine lv_if_lt (tgt := 18) hx hb dX2_lengthOf_1 (by decide) (fun c_1 => ?_) (fun c_1 => ?_)
  · refine lv_iconst (v := (-1)) hx hb dX2_lengthOf_18 (by decide) ?_
    exact W.iret (v := (-1)) hx hb hr (fun t ht hW => ⟨(-1), rfl, rfl, ht⟩) (fun q h => by cases h) dX2_lengthOf_19
  · refine lv_iload_n hx hb dX2_lengthOf_4 rfl (lv_at hl 1 rfl) ?_
    refine lv_iconst (v := 4) hx hb dX2_lengthOf_5 (by decide) ?_
    refine lv_icmp_ge (tgt := 18) hx hb dX2_lengthOf_6 (by decide) (fun c_6 => ?_) (fun c_6 => ?_)
    · refine lv_iconst (v := (-1)) hx hb dX2_lengthOf_18 (by decide) ?_
      exact W.iret (v := (-1)) hx hb hr (fun t ht hW => ⟨(-1), rfl, rfl, ht⟩) (fun q h => by cases h) dX2_lengthOf_19
    · refine lv_aload_n hx hb dX2_lengthOf_9 rfl (lv_at hl 0 rfl) ?_
      refine va_get (D := D) (ci := 2) (v := .ref p2) (C := RX2) (T := TX2) (N := 3) hx hb hts (fun _ h => List.mem_cons_of_mem _ (List.mem_append_right _ h)) hown hK hP 0 rfl rfl 1 (by decide) (hts (.fieldLink RX2 15 "TemplateForge$Data" "lengths" "[I") (List.mem_of_getElem? (i := 1) rfl)) (fun _ h9 => h9) rfl dX2_lengthOf_10 ?_
      refine lv_iload_n hx hb dX2_lengthOf_13 rfl (lv_at hl 1 rfl) ?_
      have hin_14 : vp_in k0 4 := z_in (M := 4) (by decide) c_1 c_6
      refine va_iald hx hb hK hP 1 0 rfl rfl hin_14 dX2_lengthOf_14 ?_
      refine lv_topi (fun y_2 e_2 => ?_)
      obtain rfl : y_2 = -1 := by rw [e_2]; exact hM _ (Nat.not_le.mp (fun q => hin_14 (Or.inr q)))
      refine lv_goto (tgt := 19) hx hb dX2_lengthOf_15 (by decide) ?_
      exact W.iret (v := (-1)) hx hb hr (fun t ht hW => ⟨(-1), rfl, rfl, ht⟩) (fun q h => by cases h) dX2_lengthOf_19

def zw_zc_X2_itemOf : List Cond := .code yX2_itemOf cX2_itemOf 3 (some .int) :: ([.code yX2_lengthOf cX2_lengthOf 2 (some .int), .fieldLink RX2 15 "TemplateForge$Data" "lengths" "[I", .methodLink RX2 30 yX2_lengthOf, .instanceMethod yX2_lengthOf, .selects RX2 yX2_lengthOf yX2_lengthOf, .initialized RX2] ++ wsX20)
set_option maxRecDepth 100000 in
theorem zg_zc_X2_itemOf_zc_X2_lengthOf : GoodIn zw_zc_X2_itemOf (wsV RX2 30 RX2 yX2_lengthOf zw_zc_X2_lengthOf) := goodIn_r _ [3, 4, 5, 6, 1, 2, 7, 8, 9] (by decide +kernel) (by decide +kernel)
set_option maxHeartbeats 4000000 in
set_option maxRecDepth 100000 in
theorem zc_X2_itemOf (l : Launch) (D : va_G) (cI cZ cP cF : Nat) (h0 p1 p2 p3 : Nat) (g : Nat → Int32) (r0 i0 : Int32) (hM : zM4 g) : Met l yX2_itemOf zw_zc_X2_itemOf ({ frames := 1, cells := 0, slots := 0, locals := 21 }) (va_Pc [.ref h0, .int r0, .int i0] (fun U => va_P D vwCl [(h0, .inr (2, [.ref p1, .ref p2, .ref p3])), (p2, .inl (cI, 4, .inl g))] U.heap ∧ zE D cI cZ cP cF U)) (vp_Si (fun r => r = 0)) 0 0 (fun _ => False) := by
  refine Met.ofW (cc := cX2_itemOf) (maxL := 3) (ret := (some .int)) (by decide) rfl ?_
  intro p e s m args below meth c s₁ B hml hv
  obtain ⟨rfl, hP, hE⟩ := hv
  have hx := B.exec
  have hb := B.bytes
  have hr := B.returns
  have hts := atoms_spec (ws := zw_zc_X2_itemOf) B.pre
  have hown : s.vm.findClass RX2 = some m.cls := findClass_of_methodNamed B.named
  have hlocks := B.notSynchronized
  have hK := hE.k
  have hP : va_P D vwCl [(h0, .inr (2, [.ref p1, .ref p2, .ref p3])), (p2, .inl (cI, 4, .inl g))] s.heap := hP
  have hl := lv_entry ([.ref h0, .int r0, .int i0]) (n := 3) (Nat.le_of_ble_eq_true rfl)
  rw [lg_entry_eq]
  generalize (lg_sl ([.ref h0, .int r0, .int i0]) ++ List.replicate (3 - (lg_sl ([.ref h0, .int r0, .int i0])).length) Slot.unset).toArray = ls at hl ⊢
  have hl : lv_has ls 3 [(0, .ref h0), (1, .int r0), (2, .int i0)] := hl
  refine lv_iload_n hx hb dX2_itemOf_0 rfl (lv_at hl 2 rfl) ?_
  refine lv_if_lt (tgt := 33) hx hb dX2_itemOf_1 (by decide) (fun c_1 => ?_) (fun c_1 => ?_)
  · refine lv_iconst (v := 0) hx hb dX2_itemOf_33 (by decide) ?_
    exact W.iret (v := 0) hx hb hr (fun t ht hW => ⟨0, rfl, rfl, ht⟩) (fun q h => by cases h) dX2_itemOf_34
  · refine lv_iload_n hx hb dX2_itemOf_4 rfl (lv_at hl 2 rfl) ?_
    refine lv_aload_n hx hb dX2_itemOf_5 rfl (lv_at hl 0 rfl) ?_
    refine lv_iload_n hx hb dX2_itemOf_6 rfl (lv_at hl 1 rfl) ?_
    have hPc := hP.sub (ws' := [(h0, .inr (2, [.ref p1, .ref p2, .ref p3])), (p2, .inl (cI, 4, .inl g))]) [0, 1] rfl
    refine vp_callSi (va_Run.run (va_runV (As := [.int r0]) (rest := [.int i0]) ⟨hx, hb, hml, hown, hts⟩ (zc_X2_lengthOf l D cI cZ cP cF h0 p1 p2 p3 g r0 hM) (cwV 1 hts zg_zc_X2_itemOf_zc_X2_lengthOf rfl rfl rfl (by decide +kernel) ⟨Nat.le_of_ble_eq_true rfl, Nat.le_of_ble_eq_true rfl⟩) ⟨zBR, va_recv hK hPc (ci := 2) (q0 := 0) rfl rfl, fun U hU hW => ⟨rfl, by rw [hU]; exact hPc, hE.warm hW⟩⟩ rfl rfl hl.1 rfl (lv_room (Nat.le_of_ble_eq_true rfl)) dX2_itemOf_7 ⟨Nat.le_of_ble_eq_true rfl, Nat.le_of_ble_eq_true rfl⟩)) (fun r_7_1 h_7_1 => ?_)
    obtain rfl : r_7_1 = (-1) := h_7_1
    refine lv_icmp_ge (tgt := 33) hx hb dX2_itemOf_10 (by decide) (fun c_10 => ?_) (fun c_10 => absurd (z_m1 c_1) c_10)
    refine lv_iconst (v := 0) hx hb dX2_itemOf_33 (by decide) ?_
    exact W.iret (v := 0) hx hb hr (fun t ht hW => ⟨0, rfl, rfl, ht⟩) (fun q h => by cases h) dX2_itemOf_34

def zw_zc_X2_mixedInto : List Cond := .code yX2_mixedInto cX2_mixedInto 5 (some .long) :: ([.constantLong RX2 34 (31), .code yX2_valueOf cX2_valueOf 2 (some .int), .fieldLink RX2 9 "TemplateForge$Data" "fields" "[I", .methodLink RX2 36 yX2_valueOf, .instanceMethod yX2_valueOf, .selects RX2 yX2_valueOf yX2_valueOf, .initialized RX2, .code yX2_lengthOf cX2_lengthOf 2 (some .int), .fieldLink RX2 15 "TemplateForge$Data" "lengths" "[I", .methodLink RX2 30 yX2_lengthOf, .instanceMethod yX2_lengthOf, .selects RX2 yX2_lengthOf yX2_lengthOf] ++ wsX20)
set_option maxRecDepth 100000 in
theorem zg_zc_X2_mixedInto_zc_X2_valueOf : GoodIn zw_zc_X2_mixedInto (wsV RX2 36 RX2 yX2_valueOf zw_zc_X2_valueOf) := goodIn_r _ [4, 5, 6, 7, 2, 3, 13, 14, 15] (by decide +kernel) (by decide +kernel)
set_option maxRecDepth 100000 in
theorem zg_zc_X2_mixedInto_zc_X2_lengthOf : GoodIn zw_zc_X2_mixedInto (wsV RX2 30 RX2 yX2_lengthOf zw_zc_X2_lengthOf) := goodIn_r _ [10, 11, 12, 7, 8, 9, 13, 14, 15] (by decide +kernel) (by decide +kernel)
set_option maxHeartbeats 4000000 in
set_option maxRecDepth 100000 in
theorem zc_X2_mixedInto (l : Launch) (D : va_G) (cI cZ cP cF : Nat) (h0 p1 p2 p3 : Nat) (g : Nat → Int32) (hM : zM4 g) : Met l yX2_mixedInto zw_zc_X2_mixedInto ({ frames := 1, cells := 0, slots := 0, locals := 21 }) (va_Pc [.ref h0, .long 17] (fun U => va_P D vwCl [(h0, .inr (2, [.ref p1, .ref p2, .ref p3])), (p1, .inl (cI, 8, .inl (fun _ => 0))), (p2, .inl (cI, 4, .inl g))] U.heap ∧ zE D cI cZ cP cF U)) (vp_Sl (fun r => r = (-5056476749304236463))) 0 0 (fun _ => False) := by
  refine Met.ofW (cc := cX2_mixedInto) (maxL := 5) (ret := (some .long)) (by decide) rfl ?_
  intro p e s m args below meth c s₁ B hml hv
  obtain ⟨rfl, hP, hE⟩ := hv
  have hx := B.exec
  have hb := B.bytes
  have hr := B.returns
  have hts := atoms_spec (ws := zw_zc_X2_mixedInto) B.pre
  have hown : s.vm.findClass RX2 = some m.cls := findClass_of_methodNamed B.named
  have hlocks := B.notSynchronized
  have hK := hE.k
  have hP : va_P D vwCl [(h0, .inr (2, [.ref p1, .ref p2, .ref p3])), (p1, .inl (cI, 8, .inl (fun _ => 0))), (p2, .inl (cI, 4, .inl g))] s.heap := hP
  have hl := lv_entry ([.ref h0, .long 17]) (n := 5) (Nat.le_of_ble_eq_true rfl)
  rw [lg_entry_eq]
  generalize (lg_sl ([.ref h0, .long 17]) ++ List.replicate (5 - (lg_sl ([.ref h0, .long 17])).length) Slot.unset).toArray = ls at hl ⊢
  have hl : lv_has ls 5 [(0, .ref h0), (1, .long 17)] := hl
  refine lv_iconst (v := 0) hx hb dX2_mixedInto_0 (by decide) ?_
  refine lv_istore_n (lv' := [(3, .int 0), (0, .ref h0), (1, .long 17)]) hx hb dX2_mixedInto_1 rfl hl (by decide) rfl (fun ls hl => ?_)
  refine lv_iload_n hx hb dX2_mixedInto_2 rfl (lv_at hl 0 rfl) ?_
  refine lv_bipush (v := 8) hx hb dX2_mixedInto_3 (by decide) ?_
  refine lv_icmp_ge (tgt := 27) hx hb dX2_mixedInto_5 (by decide) (fun c => absurd c (by decide)) (fun _ => ?_)
  refine lv_ldc2 hx hb hown (hts (.constantLong RX2 34 (31)) (List.mem_of_getElem? (i := 1) rfl)) dX2_mixedInto_8 ?_
  refine lv_lload_n hx hb dX2_mixedInto_11 rfl (lv_at hl 2 rfl) ?_
  refine lv_lmul hx hb dX2_mixedInto_12 ?_
  refine lv_topl (fun y_1 e_1 => ?_)
  obtain rfl : y_1 = 527 := by rw [e_1]; decide +kernel
  refine lv_aload_n hx hb dX2_mixedInto_13 rfl (lv_at hl 1 rfl) ?_
  refine lv_iload_n hx hb dX2_mixedInto_14 rfl (lv_at hl 0 rfl) ?_
  have hPc := hP.sub (ws' := [(h0, .inr (2, [.ref p1, .ref p2, .ref p3])), (p1, .inl (cI, 8, .inl (fun _ => 0)))]) [0, 1] rfl
  refine vp_callSi (va_Run.run (va_runV (As := [.int 0]) (rest := [.long 527]) ⟨hx, hb, hml, hown, hts⟩ (zc_X2_valueOf l D cI cZ cP cF h0 p1 p2 p3 0) (cwV 1 hts zg_zc_X2_mixedInto_zc_X2_valueOf rfl rfl rfl (by decide +kernel) ⟨Nat.le_of_ble_eq_true rfl, Nat.le_of_ble_eq_true rfl⟩) ⟨zBR, va_recv hK hPc (ci := 2) (q0 := 0) rfl rfl, fun U hU hW => ⟨rfl, by rw [hU]; exact hPc, hE.warm hW⟩⟩ rfl rfl hl.1 rfl (lv_room (Nat.le_of_ble_eq_true rfl)) dX2_mixedInto_15 ⟨Nat.le_of_ble_eq_true rfl, Nat.le_of_ble_eq_true rfl⟩)) (fun r_15_2 h_15_2 => ?_)
  obtain rfl : r_15_2 = 0 := h_15_2
  refine lv_i2l (v := 0) hx hb dX2_mixedInto_18 (by decide) ?_
  refine lv_ladd hx hb dX2_mixedInto_19 ?_
  refine lv_topl (fun y_3 e_3 => ?_)
  obtain rfl : y_3 = 527 := by rw [e_3]; decide +kernel
  refine lv_lstore_n (lv' := [(1, .long 527), (3, .int 0), (0, .ref h0)]) hx hb dX2_mixedInto_20 rfl hl (by decide) rfl (fun ls hl => ?_)
  refine lv_iinc (v := 1) (lv' := [(3, .int 1), (1, .long 527), (0, .ref h0)]) hx hb dX2_mixedInto_21 hl (k := 1) rfl (by decide) (by decide) rfl (fun ls hl => ?_)
  refine lv_goto (tgt := 2) hx hb dX2_mixedInto_24 (by decide) ?_
  refine lv_iload_n hx hb dX2_mixedInto_2 rfl (lv_at hl 0 rfl) ?_
  refine lv_bipush (v := 8) hx hb dX2_mixedInto_3 (by decide) ?_
  refine lv_icmp_ge (tgt := 27) hx hb dX2_mixedInto_5 (by decide) (fun c => absurd c (by decide)) (fun _ => ?_)
  refine lv_ldc2 hx hb hown (hts (.constantLong RX2 34 (31)) (List.mem_of_getElem? (i := 1) rfl)) dX2_mixedInto_8 ?_
  refine lv_lload_n hx hb dX2_mixedInto_11 rfl (lv_at hl 1 rfl) ?_
  refine lv_lmul hx hb dX2_mixedInto_12 ?_
  refine lv_topl (fun y_4 e_4 => ?_)
  obtain rfl : y_4 = 16337 := by rw [e_4]; decide +kernel
  refine lv_aload_n hx hb dX2_mixedInto_13 rfl (lv_at hl 2 rfl) ?_
  refine lv_iload_n hx hb dX2_mixedInto_14 rfl (lv_at hl 0 rfl) ?_
  have hPc := hP.sub (ws' := [(h0, .inr (2, [.ref p1, .ref p2, .ref p3])), (p1, .inl (cI, 8, .inl (fun _ => 0)))]) [0, 1] rfl
  refine vp_callSi (va_Run.run (va_runV (As := [.int 1]) (rest := [.long 16337]) ⟨hx, hb, hml, hown, hts⟩ (zc_X2_valueOf l D cI cZ cP cF h0 p1 p2 p3 1) (cwV 1 hts zg_zc_X2_mixedInto_zc_X2_valueOf rfl rfl rfl (by decide +kernel) ⟨Nat.le_of_ble_eq_true rfl, Nat.le_of_ble_eq_true rfl⟩) ⟨zBR, va_recv hK hPc (ci := 2) (q0 := 0) rfl rfl, fun U hU hW => ⟨rfl, by rw [hU]; exact hPc, hE.warm hW⟩⟩ rfl rfl hl.1 rfl (lv_room (Nat.le_of_ble_eq_true rfl)) dX2_mixedInto_15 ⟨Nat.le_of_ble_eq_true rfl, Nat.le_of_ble_eq_true rfl⟩)) (fun r_15_5 h_15_5 => ?_)
  obtain rfl : r_15_5 = 0 := h_15_5
  refine lv_i2l (v := 0) hx hb dX2_mixedInto_18 (by decide) ?_
  refine lv_ladd hx hb dX2_mixedInto_19 ?_
  refine lv_topl (fun y_6 e_6 => ?_)
  obtain rfl : y_6 = 16337 := by rw [e_6]; decide +kernel
  refine lv_lstore_n (lv' := [(1, .long 16337), (3, .int 1), (0, .ref h0)]) hx hb dX2_mixedInto_20 rfl hl (by decide) rfl (fun ls hl => ?_)
  refine lv_iinc (v := 2) (lv' := [(3, .int 2), (1, .long 16337), (0, .ref h0)]) hx hb dX2_mixedInto_21 hl (k := 1) rfl (by decide) (by decide) rfl (fun ls hl => ?_)
  refine lv_goto (tgt := 2) hx hb dX2_mixedInto_24 (by decide) ?_
  refine lv_iload_n hx hb dX2_mixedInto_2 rfl (lv_at hl 0 rfl) ?_
  refine lv_bipush (v := 8) hx hb dX2_mixedInto_3 (by decide) ?_
  refine lv_icmp_ge (tgt := 27) hx hb dX2_mixedInto_5 (by decide) (fun c => absurd c (by decide)) (fun _ => ?_)
  refine lv_ldc2 hx hb hown (hts (.constantLong RX2 34 (31)) (List.mem_of_getElem? (i := 1) rfl)) dX2_mixedInto_8 ?_
  refine lv_lload_n hx hb dX2_mixedInto_11 rfl (lv_at hl 1 rfl) ?_
  refine lv_lmul hx hb dX2_mixedInto_12 ?_
  refine lv_topl (fun y_7 e_7 => ?_)
  obtain rfl : y_7 = 506447 := by rw [e_7]; decide +kernel
  refine lv_aload_n hx hb dX2_mixedInto_13 rfl (lv_at hl 2 rfl) ?_
  refine lv_iload_n hx hb dX2_mixedInto_14 rfl (lv_at hl 0 rfl) ?_
  have hPc := hP.sub (ws' := [(h0, .inr (2, [.ref p1, .ref p2, .ref p3])), (p1, .inl (cI, 8, .inl (fun _ => 0)))]) [0, 1] rfl
  refine vp_callSi (va_Run.run (va_runV (As := [.int 2]) (rest := [.long 506447]) ⟨hx, hb, hml, hown, hts⟩ (zc_X2_valueOf l D cI cZ cP cF h0 p1 p2 p3 2) (cwV 1 hts zg_zc_X2_mixedInto_zc_X2_valueOf rfl rfl rfl (by decide +kernel) ⟨Nat.le_of_ble_eq_true rfl, Nat.le_of_ble_eq_true rfl⟩) ⟨zBR, va_recv hK hPc (ci := 2) (q0 := 0) rfl rfl, fun U hU hW => ⟨rfl, by rw [hU]; exact hPc, hE.warm hW⟩⟩ rfl rfl hl.1 rfl (lv_room (Nat.le_of_ble_eq_true rfl)) dX2_mixedInto_15 ⟨Nat.le_of_ble_eq_true rfl, Nat.le_of_ble_eq_true rfl⟩)) (fun r_15_8 h_15_8 => ?_)
  obtain rfl : r_15_8 = 0 := h_15_8
  refine lv_i2l (v := 0) hx hb dX2_mixedInto_18 (by decide) ?_
  refine lv_ladd hx hb dX2_mixedInto_19 ?_
  refine lv_topl (fun y_9 e_9 => ?_)
  obtain rfl : y_9 = 506447 := by rw [e_9]; decide +kernel
  refine lv_lstore_n (lv' := [(1, .long 506447), (3, .int 2), (0, .ref h0)]) hx hb dX2_mixedInto_20 rfl hl (by decide) rfl (fun ls hl => ?_)
  refine lv_iinc (v := 3) (lv' := [(3, .int 3), (1, .long 506447), (0, .ref h0)]) hx hb dX2_mixedInto_21 hl (k := 1) rfl (by decide) (by decide) rfl (fun ls hl => ?_)
  refine lv_goto (tgt := 2) hx hb dX2_mixedInto_24 (by decide) ?_
  refine lv_iload_n hx hb dX2_mixedInto_2 rfl (lv_at hl 0 rfl) ?_
  refine lv_bipush (v := 8) hx hb dX2_mixedInto_3 (by decide) ?_
  refine lv_icmp_ge (tgt := 27) hx hb dX2_mixedInto_5 (by decide) (fun c => absurd c (by decide)) (fun _ => ?_)
  refine lv_ldc2 hx hb hown (hts (.constantLong RX2 34 (31)) (List.mem_of_getElem? (i := 1) rfl)) dX2_mixedInto_8 ?_
  refine lv_lload_n hx hb dX2_mixedInto_11 rfl (lv_at hl 1 rfl) ?_
  refine lv_lmul hx hb dX2_mixedInto_12 ?_
  refine lv_topl (fun y_10 e_10 => ?_)
  obtain rfl : y_10 = 15699857 := by rw [e_10]; decide +kernel
  refine lv_aload_n hx hb dX2_mixedInto_13 rfl (lv_at hl 2 rfl) ?_
  refine lv_iload_n hx hb dX2_mixedInto_14 rfl (lv_at hl 0 rfl) ?_
  have hPc := hP.sub (ws' := [(h0, .inr (2, [.ref p1, .ref p2, .ref p3])), (p1, .inl (cI, 8, .inl (fun _ => 0)))]) [0, 1] rfl
  refine vp_callSi (va_Run.run (va_runV (As := [.int 3]) (rest := [.long 15699857]) ⟨hx, hb, hml, hown, hts⟩ (zc_X2_valueOf l D cI cZ cP cF h0 p1 p2 p3 3) (cwV 1 hts zg_zc_X2_mixedInto_zc_X2_valueOf rfl rfl rfl (by decide +kernel) ⟨Nat.le_of_ble_eq_true rfl, Nat.le_of_ble_eq_true rfl⟩) ⟨zBR, va_recv hK hPc (ci := 2) (q0 := 0) rfl rfl, fun U hU hW => ⟨rfl, by rw [hU]; exact hPc, hE.warm hW⟩⟩ rfl rfl hl.1 rfl (lv_room (Nat.le_of_ble_eq_true rfl)) dX2_mixedInto_15 ⟨Nat.le_of_ble_eq_true rfl, Nat.le_of_ble_eq_true rfl⟩)) (fun r_15_11 h_15_11 => ?_)
  obtain rfl : r_15_11 = 0 := h_15_11
  refine lv_i2l (v := 0) hx hb dX2_mixedInto_18 (by decide) ?_
  refine lv_ladd hx hb dX2_mixedInto_19 ?_
  refine lv_topl (fun y_12 e_12 => ?_)
  obtain rfl : y_12 = 15699857 := by rw [e_12]; decide +kernel
  refine lv_lstore_n (lv' := [(1, .long 15699857), (3, .int 3), (0, .ref h0)]) hx hb dX2_mixedInto_20 rfl hl (by decide) rfl (fun ls hl => ?_)
  refine lv_iinc (v := 4) (lv' := [(3, .int 4), (1, .long 15699857), (0, .ref h0)]) hx hb dX2_mixedInto_21 hl (k := 1) rfl (by decide) (by decide) rfl (fun ls hl => ?_)
  refine lv_goto (tgt := 2) hx hb dX2_mixedInto_24 (by decide) ?_
  refine lv_iload_n hx hb dX2_mixedInto_2 rfl (lv_at hl 0 rfl) ?_
  refine lv_bipush (v := 8) hx hb dX2_mixedInto_3 (by decide) ?_
  refine lv_icmp_ge (tgt := 27) hx hb dX2_mixedInto_5 (by decide) (fun c => absurd c (by decide)) (fun _ => ?_)
  refine lv_ldc2 hx hb hown (hts (.constantLong RX2 34 (31)) (List.mem_of_getElem? (i := 1) rfl)) dX2_mixedInto_8 ?_
  refine lv_lload_n hx hb dX2_mixedInto_11 rfl (lv_at hl 1 rfl) ?_
  refine lv_lmul hx hb dX2_mixedInto_12 ?_
  refine lv_topl (fun y_13 e_13 => ?_)
  obtain rfl : y_13 = 486695567 := by rw [e_13]; decide +kernel
  refine lv_aload_n hx hb dX2_mixedInto_13 rfl (lv_at hl 2 rfl) ?_
  refine lv_iload_n hx hb dX2_mixedInto_14 rfl (lv_at hl 0 rfl) ?_
  have hPc := hP.sub (ws' := [(h0, .inr (2, [.ref p1, .ref p2, .ref p3])), (p1, .inl (cI, 8, .inl (fun _ => 0)))]) [0, 1] rfl
  refine vp_callSi (va_Run.run (va_runV (As := [.int 4]) (rest := [.long 486695567]) ⟨hx, hb, hml, hown, hts⟩ (zc_X2_valueOf l D cI cZ cP cF h0 p1 p2 p3 4) (cwV 1 hts zg_zc_X2_mixedInto_zc_X2_valueOf rfl rfl rfl (by decide +kernel) ⟨Nat.le_of_ble_eq_true rfl, Nat.le_of_ble_eq_true rfl⟩) ⟨zBR, va_recv hK hPc (ci := 2) (q0 := 0) rfl rfl, fun U hU hW => ⟨rfl, by rw [hU]; exact hPc, hE.warm hW⟩⟩ rfl rfl hl.1 rfl (lv_room (Nat.le_of_ble_eq_true rfl)) dX2_mixedInto_15 ⟨Nat.le_of_ble_eq_true rfl, Nat.le_of_ble_eq_true rfl⟩)) (fun r_15_14 h_15_14 => ?_)
  obtain rfl : r_15_14 = 0 := h_15_14
  refine lv_i2l (v := 0) hx hb dX2_mixedInto_18 (by decide) ?_
  refine lv_ladd hx hb dX2_mixedInto_19 ?_
  refine lv_topl (fun y_15 e_15 => ?_)
  obtain rfl : y_15 = 486695567 := by rw [e_15]; decide +kernel
  refine lv_lstore_n (lv' := [(1, .long 486695567), (3, .int 4), (0, .ref h0)]) hx hb dX2_mixedInto_20 rfl hl (by decide) rfl (fun ls hl => ?_)
  refine lv_iinc (v := 5) (lv' := [(3, .int 5), (1, .long 486695567), (0, .ref h0)]) hx hb dX2_mixedInto_21 hl (k := 1) rfl (by decide) (by decide) rfl (fun ls hl => ?_)
  refine lv_goto (tgt := 2) hx hb dX2_mixedInto_24 (by decide) ?_
  refine lv_iload_n hx hb dX2_mixedInto_2 rfl (lv_at hl 0 rfl) ?_
  refine lv_bipush (v := 8) hx hb dX2_mixedInto_3 (by decide) ?_
  refine lv_icmp_ge (tgt := 27) hx hb dX2_mixedInto_5 (by decide) (fun c => absurd c (by decide)) (fun _ => ?_)
  refine lv_ldc2 hx hb hown (hts (.constantLong RX2 34 (31)) (List.mem_of_getElem? (i := 1) rfl)) dX2_mixedInto_8 ?_
  refine lv_lload_n hx hb dX2_mixedInto_11 rfl (lv_at hl 1 rfl) ?_
  refine lv_lmul hx hb dX2_mixedInto_12 ?_
  refine lv_topl (fun y_16 e_16 => ?_)
  obtain rfl : y_16 = 15087562577 := by rw [e_16]; decide +kernel
  refine lv_aload_n hx hb dX2_mixedInto_13 rfl (lv_at hl 2 rfl) ?_
  refine lv_iload_n hx hb dX2_mixedInto_14 rfl (lv_at hl 0 rfl) ?_
  have hPc := hP.sub (ws' := [(h0, .inr (2, [.ref p1, .ref p2, .ref p3])), (p1, .inl (cI, 8, .inl (fun _ => 0)))]) [0, 1] rfl
  refine vp_callSi (va_Run.run (va_runV (As := [.int 5]) (rest := [.long 15087562577]) ⟨hx, hb, hml, hown, hts⟩ (zc_X2_valueOf l D cI cZ cP cF h0 p1 p2 p3 5) (cwV 1 hts zg_zc_X2_mixedInto_zc_X2_valueOf rfl rfl rfl (by decide +kernel) ⟨Nat.le_of_ble_eq_true rfl, Nat.le_of_ble_eq_true rfl⟩) ⟨zBR, va_recv hK hPc (ci := 2) (q0 := 0) rfl rfl, fun U hU hW => ⟨rfl, by rw [hU]; exact hPc, hE.warm hW⟩⟩ rfl rfl hl.1 rfl (lv_room (Nat.le_of_ble_eq_true rfl)) dX2_mixedInto_15 ⟨Nat.le_of_ble_eq_true rfl, Nat.le_of_ble_eq_true rfl⟩)) (fun r_15_17 h_15_17 => ?_)
  obtain rfl : r_15_17 = 0 := h_15_17
  refine lv_i2l (v := 0) hx hb dX2_mixedInto_18 (by decide) ?_
  refine lv_ladd hx hb dX2_mixedInto_19 ?_
  refine lv_topl (fun y_18 e_18 => ?_)
  obtain rfl : y_18 = 15087562577 := by rw [e_18]; decide +kernel
  refine lv_lstore_n (lv' := [(1, .long 15087562577), (3, .int 5), (0, .ref h0)]) hx hb dX2_mixedInto_20 rfl hl (by decide) rfl (fun ls hl => ?_)
  refine lv_iinc (v := 6) (lv' := [(3, .int 6), (1, .long 15087562577), (0, .ref h0)]) hx hb dX2_mixedInto_21 hl (k := 1) rfl (by decide) (by decide) rfl (fun ls hl => ?_)
  refine lv_goto (tgt := 2) hx hb dX2_mixedInto_24 (by decide) ?_
  refine lv_iload_n hx hb dX2_mixedInto_2 rfl (lv_at hl 0 rfl) ?_
  refine lv_bipush (v := 8) hx hb dX2_mixedInto_3 (by decide) ?_
  refine lv_icmp_ge (tgt := 27) hx hb dX2_mixedInto_5 (by decide) (fun c => absurd c (by decide)) (fun _ => ?_)
  refine lv_ldc2 hx hb hown (hts (.constantLong RX2 34 (31)) (List.mem_of_getElem? (i := 1) rfl)) dX2_mixedInto_8 ?_
  refine lv_lload_n hx hb dX2_mixedInto_11 rfl (lv_at hl 1 rfl) ?_
  refine lv_lmul hx hb dX2_mixedInto_12 ?_
  refine lv_topl (fun y_19 e_19 => ?_)
  obtain rfl : y_19 = 467714439887 := by rw [e_19]; decide +kernel
  refine lv_aload_n hx hb dX2_mixedInto_13 rfl (lv_at hl 2 rfl) ?_
  refine lv_iload_n hx hb dX2_mixedInto_14 rfl (lv_at hl 0 rfl) ?_
  have hPc := hP.sub (ws' := [(h0, .inr (2, [.ref p1, .ref p2, .ref p3])), (p1, .inl (cI, 8, .inl (fun _ => 0)))]) [0, 1] rfl
  refine vp_callSi (va_Run.run (va_runV (As := [.int 6]) (rest := [.long 467714439887]) ⟨hx, hb, hml, hown, hts⟩ (zc_X2_valueOf l D cI cZ cP cF h0 p1 p2 p3 6) (cwV 1 hts zg_zc_X2_mixedInto_zc_X2_valueOf rfl rfl rfl (by decide +kernel) ⟨Nat.le_of_ble_eq_true rfl, Nat.le_of_ble_eq_true rfl⟩) ⟨zBR, va_recv hK hPc (ci := 2) (q0 := 0) rfl rfl, fun U hU hW => ⟨rfl, by rw [hU]; exact hPc, hE.warm hW⟩⟩ rfl rfl hl.1 rfl (lv_room (Nat.le_of_ble_eq_true rfl)) dX2_mixedInto_15 ⟨Nat.le_of_ble_eq_true rfl, Nat.le_of_ble_eq_true rfl⟩)) (fun r_15_20 h_15_20 => ?_)
  obtain rfl : r_15_20 = 0 := h_15_20
  refine lv_i2l (v := 0) hx hb dX2_mixedInto_18 (by decide) ?_
  refine lv_ladd hx hb dX2_mixedInto_19 ?_
  refine lv_topl (fun y_21 e_21 => ?_)
  obtain rfl : y_21 = 467714439887 := by rw [e_21]; decide +kernel
  refine lv_lstore_n (lv' := [(1, .long 467714439887), (3, .int 6), (0, .ref h0)]) hx hb dX2_mixedInto_20 rfl hl (by decide) rfl (fun ls hl => ?_)
  refine lv_iinc (v := 7) (lv' := [(3, .int 7), (1, .long 467714439887), (0, .ref h0)]) hx hb dX2_mixedInto_21 hl (k := 1) rfl (by decide) (by decide) rfl (fun ls hl => ?_)
  refine lv_goto (tgt := 2) hx hb dX2_mixedInto_24 (by decide) ?_
  refine lv_iload_n hx hb dX2_mixedInto_2 rfl (lv_at hl 0 rfl) ?_
  refine lv_bipush (v := 8) hx hb dX2_mixedInto_3 (by decide) ?_
  refine lv_icmp_ge (tgt := 27) hx hb dX2_mixedInto_5 (by decide) (fun c => absurd c (by decide)) (fun _ => ?_)
  refine lv_ldc2 hx hb hown (hts (.constantLong RX2 34 (31)) (List.mem_of_getElem? (i := 1) rfl)) dX2_mixedInto_8 ?_
  refine lv_lload_n hx hb dX2_mixedInto_11 rfl (lv_at hl 1 rfl) ?_
  refine lv_lmul hx hb dX2_mixedInto_12 ?_
  refine lv_topl (fun y_22 e_22 => ?_)
  obtain rfl : y_22 = 14499147636497 := by rw [e_22]; decide +kernel
  refine lv_aload_n hx hb dX2_mixedInto_13 rfl (lv_at hl 2 rfl) ?_
  refine lv_iload_n hx hb dX2_mixedInto_14 rfl (lv_at hl 0 rfl) ?_
  have hPc := hP.sub (ws' := [(h0, .inr (2, [.ref p1, .ref p2, .ref p3])), (p1, .inl (cI, 8, .inl (fun _ => 0)))]) [0, 1] rfl
  refine vp_callSi (va_Run.run (va_runV (As := [.int 7]) (rest := [.long 14499147636497]) ⟨hx, hb, hml, hown, hts⟩ (zc_X2_valueOf l D cI cZ cP cF h0 p1 p2 p3 7) (cwV 1 hts zg_zc_X2_mixedInto_zc_X2_valueOf rfl rfl rfl (by decide +kernel) ⟨Nat.le_of_ble_eq_true rfl, Nat.le_of_ble_eq_true rfl⟩) ⟨zBR, va_recv hK hPc (ci := 2) (q0 := 0) rfl rfl, fun U hU hW => ⟨rfl, by rw [hU]; exact hPc, hE.warm hW⟩⟩ rfl rfl hl.1 rfl (lv_room (Nat.le_of_ble_eq_true rfl)) dX2_mixedInto_15 ⟨Nat.le_of_ble_eq_true rfl, Nat.le_of_ble_eq_true rfl⟩)) (fun r_15_23 h_15_23 => ?_)
  obtain rfl : r_15_23 = 0 := h_15_23
  refine lv_i2l (v := 0) hx hb dX2_mixedInto_18 (by decide) ?_
  refine lv_ladd hx hb dX2_mixedInto_19 ?_
  refine lv_topl (fun y_24 e_24 => ?_)
  obtain rfl : y_24 = 14499147636497 := by rw [e_24]; decide +kernel
  refine lv_lstore_n (lv' := [(1, .long 14499147636497), (3, .int 7), (0, .ref h0)]) hx hb dX2_mixedInto_20 rfl hl (by decide) rfl (fun ls hl => ?_)
  refine lv_iinc (v := 8) (lv' := [(3, .int 8), (1, .long 14499147636497), (0, .ref h0)]) hx hb dX2_mixedInto_21 hl (k := 1) rfl (by decide) (by decide) rfl (fun ls hl => ?_)
  refine lv_goto (tgt := 2) hx hb dX2_mixedInto_24 (by decide) ?_
  refine lv_iload_n hx hb dX2_mixedInto_2 rfl (lv_at hl 0 rfl) ?_
  refine lv_bipush (v := 8) hx hb dX2_mixedInto_3 (by decide) ?_
  refine lv_icmp_ge (tgt := 27) hx hb dX2_mixedInto_5 (by decide) (fun _ => ?_) (fun c => absurd (by decide) c)
  refine lv_iconst (v := 0) hx hb dX2_mixedInto_27 (by decide) ?_
  refine lv_istore_n (lv' := [(3, .int 0), (1, .long 14499147636497), (0, .ref h0)]) hx hb dX2_mixedInto_28 rfl hl (by decide) rfl (fun ls hl => ?_)
  refine lv_iload_n hx hb dX2_mixedInto_29 rfl (lv_at hl 0 rfl) ?_
  refine lv_iconst (v := 4) hx hb dX2_mixedInto_30 (by decide) ?_
  refine lv_icmp_ge (tgt := 87) hx hb dX2_mixedInto_31 (by decide) (fun c => absurd c (by decide)) (fun _ => ?_)
  refine lv_ldc2 hx hb hown (hts (.constantLong RX2 34 (31)) (List.mem_of_getElem? (i := 1) rfl)) dX2_mixedInto_34 ?_
  refine lv_lload_n hx hb dX2_mixedInto_37 rfl (lv_at hl 1 rfl) ?_
  refine lv_lmul hx hb dX2_mixedInto_38 ?_
  refine lv_topl (fun y_25 e_25 => ?_)
  obtain rfl : y_25 = 449473576731407 := by rw [e_25]; decide +kernel
  refine lv_aload_n hx hb dX2_mixedInto_39 rfl (lv_at hl 2 rfl) ?_
  refine lv_iload_n hx hb dX2_mixedInto_40 rfl (lv_at hl 0 rfl) ?_
  have hPc := hP.sub (ws' := [(h0, .inr (2, [.ref p1, .ref p2, .ref p3])), (p2, .inl (cI, 4, .inl g))]) [0, 2] rfl
  refine vp_callSi (va_Run.run (va_runV (As := [.int 0]) (rest := [.long 449473576731407]) ⟨hx, hb, hml, hown, hts⟩ (zc_X2_lengthOf l D cI cZ cP cF h0 p1 p2 p3 g 0 hM) (cwV 1 hts zg_zc_X2_mixedInto_zc_X2_lengthOf rfl rfl rfl (by decide +kernel) ⟨Nat.le_of_ble_eq_true rfl, Nat.le_of_ble_eq_true rfl⟩) ⟨zBR, va_recv hK hPc (ci := 2) (q0 := 0) rfl rfl, fun U hU hW => ⟨rfl, by rw [hU]; exact hPc, hE.warm hW⟩⟩ rfl rfl hl.1 rfl (lv_room (Nat.le_of_ble_eq_true rfl)) dX2_mixedInto_41 ⟨Nat.le_of_ble_eq_true rfl, Nat.le_of_ble_eq_true rfl⟩)) (fun r_41_26 h_41_26 => ?_)
  obtain rfl : r_41_26 = (-1) := h_41_26
  refine lv_i2l (v := (-1)) hx hb dX2_mixedInto_44 (by decide) ?_
  refine lv_ladd hx hb dX2_mixedInto_45 ?_
  refine lv_topl (fun y_27 e_27 => ?_)
  obtain rfl : y_27 = 449473576731406 := by rw [e_27]; decide +kernel
  refine lv_lstore_n (lv' := [(1, .long 449473576731406), (3, .int 0), (0, .ref h0)]) hx hb dX2_mixedInto_46 rfl hl (by decide) rfl (fun ls hl => ?_)
  refine lv_iconst (v := 0) hx hb dX2_mixedInto_47 (by decide) ?_
  refine lv_istore (lv' := [(4, .int 0), (1, .long 449473576731406), (3, .int 0), (0, .ref h0)]) hx hb dX2_mixedInto_48 hl (by decide) rfl (fun ls hl => ?_)
  refine lv_iload hx hb dX2_mixedInto_50 (lv_at hl 0 rfl) ?_
  refine lv_aload_n hx hb dX2_mixedInto_52 rfl (lv_at hl 3 rfl) ?_
  refine lv_iload_n hx hb dX2_mixedInto_53 rfl (lv_at hl 2 rfl) ?_
  have hPc := hP.sub (ws' := [(h0, .inr (2, [.ref p1, .ref p2, .ref p3])), (p2, .inl (cI, 4, .inl g))]) [0, 2] rfl
  refine vp_callSi (va_Run.run (va_runV (As := [.int 0]) (rest := [.int 0]) ⟨hx, hb, hml, hown, hts⟩ (zc_X2_lengthOf l D cI cZ cP cF h0 p1 p2 p3 g 0 hM) (cwV 1 hts zg_zc_X2_mixedInto_zc_X2_lengthOf rfl rfl rfl (by decide +kernel) ⟨Nat.le_of_ble_eq_true rfl, Nat.le_of_ble_eq_true rfl⟩) ⟨zBR, va_recv hK hPc (ci := 2) (q0 := 0) rfl rfl, fun U hU hW => ⟨rfl, by rw [hU]; exact hPc, hE.warm hW⟩⟩ rfl rfl hl.1 rfl (lv_room (Nat.le_of_ble_eq_true rfl)) dX2_mixedInto_54 ⟨Nat.le_of_ble_eq_true rfl, Nat.le_of_ble_eq_true rfl⟩)) (fun r_54_28 h_54_28 => ?_)
  obtain rfl : r_54_28 = (-1) := h_54_28
  refine lv_icmp_ge (tgt := 81) hx hb dX2_mixedInto_57 (by decide) (fun _ => ?_) (fun c => absurd (by decide) c)
  refine lv_iinc (v := 1) (lv' := [(3, .int 1), (4, .int 0), (1, .long 449473576731406), (0, .ref h0)]) hx hb dX2_mixedInto_81 hl (k := 2) rfl (by decide) (by decide) rfl (fun ls hl => ?_)
  refine lv_goto (tgt := 29) hx hb dX2_mixedInto_84 (by decide) ?_
  refine lv_iload_n hx hb dX2_mixedInto_29 rfl (lv_at hl 0 rfl) ?_
  refine lv_iconst (v := 4) hx hb dX2_mixedInto_30 (by decide) ?_
  refine lv_icmp_ge (tgt := 87) hx hb dX2_mixedInto_31 (by decide) (fun c => absurd c (by decide)) (fun _ => ?_)
  refine lv_ldc2 hx hb hown (hts (.constantLong RX2 34 (31)) (List.mem_of_getElem? (i := 1) rfl)) dX2_mixedInto_34 ?_
  refine lv_lload_n hx hb dX2_mixedInto_37 rfl (lv_at hl 2 rfl) ?_
  refine lv_lmul hx hb dX2_mixedInto_38 ?_
  refine lv_topl (fun y_29 e_29 => ?_)
  obtain rfl : y_29 = 13933680878673586 := by rw [e_29]; decide +kernel
  refine lv_aload_n hx hb dX2_mixedInto_39 rfl (lv_at hl 3 rfl) ?_
  refine lv_iload_n hx hb dX2_mixedInto_40 rfl (lv_at hl 0 rfl) ?_
  have hPc := hP.sub (ws' := [(h0, .inr (2, [.ref p1, .ref p2, .ref p3])), (p2, .inl (cI, 4, .inl g))]) [0, 2] rfl
  refine vp_callSi (va_Run.run (va_runV (As := [.int 1]) (rest := [.long 13933680878673586]) ⟨hx, hb, hml, hown, hts⟩ (zc_X2_lengthOf l D cI cZ cP cF h0 p1 p2 p3 g 1 hM) (cwV 1 hts zg_zc_X2_mixedInto_zc_X2_lengthOf rfl rfl rfl (by decide +kernel) ⟨Nat.le_of_ble_eq_true rfl, Nat.le_of_ble_eq_true rfl⟩) ⟨zBR, va_recv hK hPc (ci := 2) (q0 := 0) rfl rfl, fun U hU hW => ⟨rfl, by rw [hU]; exact hPc, hE.warm hW⟩⟩ rfl rfl hl.1 rfl (lv_room (Nat.le_of_ble_eq_true rfl)) dX2_mixedInto_41 ⟨Nat.le_of_ble_eq_true rfl, Nat.le_of_ble_eq_true rfl⟩)) (fun r_41_30 h_41_30 => ?_)
  obtain rfl : r_41_30 = (-1) := h_41_30
  refine lv_i2l (v := (-1)) hx hb dX2_mixedInto_44 (by decide) ?_
  refine lv_ladd hx hb dX2_mixedInto_45 ?_
  refine lv_topl (fun y_31 e_31 => ?_)
  obtain rfl : y_31 = 13933680878673585 := by rw [e_31]; decide +kernel
  refine lv_lstore_n (lv' := [(1, .long 13933680878673585), (3, .int 1), (4, .int 0), (0, .ref h0)]) hx hb dX2_mixedInto_46 rfl hl (by decide) rfl (fun ls hl => ?_)
  refine lv_iconst (v := 0) hx hb dX2_mixedInto_47 (by decide) ?_
  refine lv_istore (lv' := [(4, .int 0), (1, .long 13933680878673585), (3, .int 1), (0, .ref h0)]) hx hb dX2_mixedInto_48 hl (by decide) rfl (fun ls hl => ?_)
  refine lv_iload hx hb dX2_mixedInto_50 (lv_at hl 0 rfl) ?_
  refine lv_aload_n hx hb dX2_mixedInto_52 rfl (lv_at hl 3 rfl) ?_
  refine lv_iload_n hx hb dX2_mixedInto_53 rfl (lv_at hl 2 rfl) ?_
  have hPc := hP.sub (ws' := [(h0, .inr (2, [.ref p1, .ref p2, .ref p3])), (p2, .inl (cI, 4, .inl g))]) [0, 2] rfl
  refine vp_callSi (va_Run.run (va_runV (As := [.int 1]) (rest := [.int 0]) ⟨hx, hb, hml, hown, hts⟩ (zc_X2_lengthOf l D cI cZ cP cF h0 p1 p2 p3 g 1 hM) (cwV 1 hts zg_zc_X2_mixedInto_zc_X2_lengthOf rfl rfl rfl (by decide +kernel) ⟨Nat.le_of_ble_eq_true rfl, Nat.le_of_ble_eq_true rfl⟩) ⟨zBR, va_recv hK hPc (ci := 2) (q0 := 0) rfl rfl, fun U hU hW => ⟨rfl, by rw [hU]; exact hPc, hE.warm hW⟩⟩ rfl rfl hl.1 rfl (lv_room (Nat.le_of_ble_eq_true rfl)) dX2_mixedInto_54 ⟨Nat.le_of_ble_eq_true rfl, Nat.le_of_ble_eq_true rfl⟩)) (fun r_54_32 h_54_32 => ?_)
  obtain rfl : r_54_32 = (-1) := h_54_32
  refine lv_icmp_ge (tgt := 81) hx hb dX2_mixedInto_57 (by decide) (fun _ => ?_) (fun c => absurd (by decide) c)
  refine lv_iinc (v := 2) (lv' := [(3, .int 2), (4, .int 0), (1, .long 13933680878673585), (0, .ref h0)]) hx hb dX2_mixedInto_81 hl (k := 2) rfl (by decide) (by decide) rfl (fun ls hl => ?_)
  refine lv_goto (tgt := 29) hx hb dX2_mixedInto_84 (by decide) ?_
  refine lv_iload_n hx hb dX2_mixedInto_29 rfl (lv_at hl 0 rfl) ?_
  refine lv_iconst (v := 4) hx hb dX2_mixedInto_30 (by decide) ?_
  refine lv_icmp_ge (tgt := 87) hx hb dX2_mixedInto_31 (by decide) (fun c => absurd c (by decide)) (fun _ => ?_)
  refine lv_ldc2 hx hb hown (hts (.constantLong RX2 34 (31)) (List.mem_of_getElem? (i := 1) rfl)) dX2_mixedInto_34 ?_
  refine lv_lload_n hx hb dX2_mixedInto_37 rfl (lv_at hl 2 rfl) ?_
  refine lv_lmul hx hb dX2_mixedInto_38 ?_
  refine lv_topl (fun y_33 e_33 => ?_)
  obtain rfl : y_33 = 431944107238881135 := by rw [e_33]; decide +kernel
  refine lv_aload_n hx hb dX2_mixedInto_39 rfl (lv_at hl 3 rfl) ?_
  refine lv_iload_n hx hb dX2_mixedInto_40 rfl (lv_at hl 0 rfl) ?_
  have hPc := hP.sub (ws' := [(h0, .inr (2, [.ref p1, .ref p2, .ref p3])), (p2, .inl (cI, 4, .inl g))]) [0, 2] rfl
  refine vp_callSi (va_Run.run (va_runV (As := [.int 2]) (rest := [.long 431944107238881135]) ⟨hx, hb, hml, hown, hts⟩ (zc_X2_lengthOf l D cI cZ cP cF h0 p1 p2 p3 g 2 hM) (cwV 1 hts zg_zc_X2_mixedInto_zc_X2_lengthOf rfl rfl rfl (by decide +kernel) ⟨Nat.le_of_ble_eq_true rfl, Nat.le_of_ble_eq_true rfl⟩) ⟨zBR, va_recv hK hPc (ci := 2) (q0 := 0) rfl rfl, fun U hU hW => ⟨rfl, by rw [hU]; exact hPc, hE.warm hW⟩⟩ rfl rfl hl.1 rfl (lv_room (Nat.le_of_ble_eq_true rfl)) dX2_mixedInto_41 ⟨Nat.le_of_ble_eq_true rfl, Nat.le_of_ble_eq_true rfl⟩)) (fun r_41_34 h_41_34 => ?_)
  obtain rfl : r_41_34 = (-1) := h_41_34
  refine lv_i2l (v := (-1)) hx hb dX2_mixedInto_44 (by decide) ?_
  refine lv_ladd hx hb dX2_mixedInto_45 ?_
  refine lv_topl (fun y_35 e_35 => ?_)
  obtain rfl : y_35 = 431944107238881134 := by rw [e_35]; decide +kernel
  refine lv_lstore_n (lv' := [(1, .long 431944107238881134), (3, .int 2), (4, .int 0), (0, .ref h0)]) hx hb dX2_mixedInto_46 rfl hl (by decide) rfl (fun ls hl => ?_)
  refine lv_iconst (v := 0) hx hb dX2_mixedInto_47 (by decide) ?_
  refine lv_istore (lv' := [(4, .int 0), (1, .long 431944107238881134), (3, .int 2), (0, .ref h0)]) hx hb dX2_mixedInto_48 hl (by decide) rfl (fun ls hl => ?_)
  refine lv_iload hx hb dX2_mixedInto_50 (lv_at hl 0 rfl) ?_
  refine lv_aload_n hx hb dX2_mixedInto_52 rfl (lv_at hl 3 rfl) ?_
  refine lv_iload_n hx hb dX2_mixedInto_53 rfl (lv_at hl 2 rfl) ?_
  have hPc := hP.sub (ws' := [(h0, .inr (2, [.ref p1, .ref p2, .ref p3])), (p2, .inl (cI, 4, .inl g))]) [0, 2] rfl
  refine vp_callSi (va_Run.run (va_runV (As := [.int 2]) (rest := [.int 0]) ⟨hx, hb, hml, hown, hts⟩ (zc_X2_lengthOf l D cI cZ cP cF h0 p1 p2 p3 g 2 hM) (cwV 1 hts zg_zc_X2_mixedInto_zc_X2_lengthOf rfl rfl rfl (by decide +kernel) ⟨Nat.le_of_ble_eq_true rfl, Nat.le_of_ble_eq_true rfl⟩) ⟨zBR, va_recv hK hPc (ci := 2) (q0 := 0) rfl rfl, fun U hU hW => ⟨rfl, by rw [hU]; exact hPc, hE.warm hW⟩⟩ rfl rfl hl.1 rfl (lv_room (Nat.le_of_ble_eq_true rfl)) dX2_mixedInto_54 ⟨Nat.le_of_ble_eq_true rfl, Nat.le_of_ble_eq_true rfl⟩)) (fun r_54_36 h_54_36 => ?_)
  obtain rfl : r_54_36 = (-1) := h_54_36
  refine lv_icmp_ge (tgt := 81) hx hb dX2_mixedInto_57 (by decide) (fun _ => ?_) (fun c => absurd (by decide) c)
  refine lv_iinc (v := 3) (lv' := [(3, .int 3), (4, .int 0), (1, .long 431944107238881134), (0, .ref h0)]) hx hb dX2_mixedInto_81 hl (k := 2) rfl (by decide) (by decide) rfl (fun ls hl => ?_)
  refine lv_goto (tgt := 29) hx hb dX2_mixedInto_84 (by decide) ?_
  refine lv_iload_n hx hb dX2_mixedInto_29 rfl (lv_at hl 0 rfl) ?_
  refine lv_iconst (v := 4) hx hb dX2_mixedInto_30 (by decide) ?_
  refine lv_icmp_ge (tgt := 87) hx hb dX2_mixedInto_31 (by decide) (fun c => absurd c (by decide)) (fun _ => ?_)
  refine lv_ldc2 hx hb hown (hts (.constantLong RX2 34 (31)) (List.mem_of_getElem? (i := 1) rfl)) dX2_mixedInto_34 ?_
  refine lv_lload_n hx hb dX2_mixedInto_37 rfl (lv_at hl 2 rfl) ?_
  refine lv_lmul hx hb dX2_mixedInto_38 ?_
  refine lv_topl (fun y_37 e_37 => ?_)
  obtain rfl : y_37 = (-5056476749304236462) := by rw [e_37]; decide +kernel
  refine lv_aload_n hx hb dX2_mixedInto_39 rfl (lv_at hl 3 rfl) ?_
  refine lv_iload_n hx hb dX2_mixedInto_40 rfl (lv_at hl 0 rfl) ?_
  have hPc := hP.sub (ws' := [(h0, .inr (2, [.ref p1, .ref p2, .ref p3])), (p2, .inl (cI, 4, .inl g))]) [0, 2] rfl
  refine vp_callSi (va_Run.run (va_runV (As := [.int 3]) (rest := [.long (-5056476749304236462)]) ⟨hx, hb, hml, hown, hts⟩ (zc_X2_lengthOf l D cI cZ cP cF h0 p1 p2 p3 g 3 hM) (cwV 1 hts zg_zc_X2_mixedInto_zc_X2_lengthOf rfl rfl rfl (by decide +kernel) ⟨Nat.le_of_ble_eq_true rfl, Nat.le_of_ble_eq_true rfl⟩) ⟨zBR, va_recv hK hPc (ci := 2) (q0 := 0) rfl rfl, fun U hU hW => ⟨rfl, by rw [hU]; exact hPc, hE.warm hW⟩⟩ rfl rfl hl.1 rfl (lv_room (Nat.le_of_ble_eq_true rfl)) dX2_mixedInto_41 ⟨Nat.le_of_ble_eq_true rfl, Nat.le_of_ble_eq_true rfl⟩)) (fun r_41_38 h_41_38 => ?_)
  obtain rfl : r_41_38 = (-1) := h_41_38
  refine lv_i2l (v := (-1)) hx hb dX2_mixedInto_44 (by decide) ?_
  refine lv_ladd hx hb dX2_mixedInto_45 ?_
  refine lv_topl (fun y_39 e_39 => ?_)
  obtain rfl : y_39 = (-5056476749304236463) := by rw [e_39]; decide +kernel
  refine lv_lstore_n (lv' := [(1, .long (-5056476749304236463)), (3, .int 3), (4, .int 0), (0, .ref h0)]) hx hb dX2_mixedInto_46 rfl hl (by decide) rfl (fun ls hl => ?_)
  refine lv_iconst (v := 0) hx hb dX2_mixedInto_47 (by decide) ?_
  refine lv_istore (lv' := [(4, .int 0), (1, .long (-5056476749304236463)), (3, .int 3), (0, .ref h0)]) hx hb dX2_mixedInto_48 hl (by decide) rfl (fun ls hl => ?_)
  refine lv_iload hx hb dX2_mixedInto_50 (lv_at hl 0 rfl) ?_
  refine lv_aload_n hx hb dX2_mixedInto_52 rfl (lv_at hl 3 rfl) ?_
  refine lv_iload_n hx hb dX2_mixedInto_53 rfl (lv_at hl 2 rfl) ?_
  have hPc := hP.sub (ws' := [(h0, .inr (2, [.ref p1, .ref p2, .ref p3])), (p2, .inl (cI, 4, .inl g))]) [0, 2] rfl
  refine vp_callSi (va_Run.run (va_runV (As := [.int 3]) (rest := [.int 0]) ⟨hx, hb, hml, hown, hts⟩ (zc_X2_lengthOf l D cI cZ cP cF h0 p1 p2 p3 g 3 hM) (cwV 1 hts zg_zc_X2_mixedInto_zc_X2_lengthOf rfl rfl rfl (by decide +kernel) ⟨Nat.le_of_ble_eq_true rfl, Nat.le_of_ble_eq_true rfl⟩) ⟨zBR, va_recv hK hPc (ci := 2) (q0 := 0) rfl rfl, fun U hU hW => ⟨rfl, by rw [hU]; exact hPc, hE.warm hW⟩⟩ rfl rfl hl.1 rfl (lv_room (Nat.le_of_ble_eq_true rfl)) dX2_mixedInto_54 ⟨Nat.le_of_ble_eq_true rfl, Nat.le_of_ble_eq_true rfl⟩)) (fun r_54_40 h_54_40 => ?_)
  obtain rfl : r_54_40 = (-1) := h_54_40
  refine lv_icmp_ge (tgt := 81) hx hb dX2_mixedInto_57 (by decide) (fun _ => ?_) (fun c => absurd (by decide) c)
  refine lv_iinc (v := 4) (lv' := [(3, .int 4), (4, .int 0), (1, .long (-5056476749304236463)), (0, .ref h0)]) hx hb dX2_mixedInto_81 hl (k := 2) rfl (by decide) (by decide) rfl (fun ls hl => ?_)
  refine lv_goto (tgt := 29) hx hb dX2_mixedInto_84 (by decide) ?_
  refine lv_iload_n hx hb dX2_mixedInto_29 rfl (lv_at hl 0 rfl) ?_
  refine lv_iconst (v := 4) hx hb dX2_mixedInto_30 (by decide) ?_
  refine lv_icmp_ge (tgt := 87) hx hb dX2_mixedInto_31 (by decide) (fun _ => ?_) (fun c => absurd (by decide) c)
  refine lv_lload_n hx hb dX2_mixedInto_87 rfl (lv_at hl 2 rfl) ?_
  exact W.lret (v := (-5056476749304236463)) hx hb hr (fun t ht hW => ⟨(-5056476749304236463), rfl, rfl, ht⟩) (fun q h => by cases h) dX2_mixedInto_88

def zw_zc_X10_mixedInto : List Cond := .code yX10_mixedInto cX10_mixedInto 4 (some .long) :: ([.constantLong RX10 38 (31), .fieldLink RX10 31 "TemplateForge$Tally" "returned" "I", .fieldLink RX10 9 "TemplateForge$Tally" "trap" "[I"] ++ wsX100)
set_option maxHeartbeats 4000000 in
set_option maxRecDepth 100000 in
theorem zc_X10_mixedInto (l : Launch) (D : va_G) (cI cZ cP cF : Nat) (h0 p1 : Nat) : Met l yX10_mixedInto zw_zc_X10_mixedInto ({ frames := 0, cells := 0, slots := 0, locals := 0 }) (va_Pc [.ref h0, .long (-5056476749304236463)] (fun U => va_P D vwCl [(h0, .inr (10, [.int 0, .int 0, .int 0, .int 0, .int 0, .int 0, .ref p1])), (p1, .inl (cI, 4, .inl (fun _ => 0)))] U.heap ∧ zE D cI cZ cP cF U)) (vp_Sl (fun r => r = (-4484465200796314545))) 0 0 (fun _ => False) := by
  refine Met.ofW (cc := cX10_mixedInto) (maxL := 4) (ret := (some .long)) (by decide) rfl ?_
  intro p e s m args below meth c s₁ B hml hv
  obtain ⟨rfl, hP, hE⟩ := hv
  have hx := B.exec
  have hb := B.bytes
  have hr := B.returns
  have hts := atoms_spec (ws := zw_zc_X10_mixedInto) B.pre
  have hown : s.vm.findClass RX10 = some m.cls := findClass_of_methodNamed B.named
  have hlocks := B.notSynchronized
  have hK := hE.k
  have hP : va_P D vwCl [(h0, .inr (10, [.int 0, .int 0, .int 0, .int 0, .int 0, .int 0, .ref p1])), (p1, .inl (cI, 4, .inl (fun _ => 0)))] s.heap := hP
  have hl := lv_entry ([.ref h0, .long (-5056476749304236463)]) (n := 4) (Nat.le_of_ble_eq_true rfl)
  rw [lg_entry_eq]
  generalize (lg_sl ([.ref h0, .long (-5056476749304236463)]) ++ List.replicate (4 - (lg_sl ([.ref h0, .long (-5056476749304236463)])).length) Slot.unset).toArray = ls at hl ⊢
  have hl : lv_has ls 4 [(0, .ref h0), (1, .long (-5056476749304236463))] := hl
  refine lv_ldc2 hx hb hown (hts (.constantLong RX10 38 (31)) (List.mem_of_getElem? (i := 1) rfl)) dX10_mixedInto_0 ?_
  refine lv_lload_n hx hb dX10_mixedInto_3 rfl (lv_at hl 1 rfl) ?_
  refine lv_lmul hx hb dX10_mixedInto_4 ?_
  refine lv_topl (fun y_1 e_1 => ?_)
  obtain rfl : y_1 = (-9176826638754917425) := by rw [e_1]; decide +kernel
  refine lv_aload_n hx hb dX10_mixedInto_5 rfl (lv_at hl 0 rfl) ?_
  refine va_get (D := D) (ci := 10) (v := .int 0) (C := RX10) (T := TX10) (N := 7) hx hb hts (fun _ h => List.mem_cons_of_mem _ (List.mem_append_right _ h)) hown hK hP 0 rfl rfl 5 (by decide) (hts (.fieldLink RX10 31 "TemplateForge$Tally" "returned" "I") (List.mem_of_getElem? (i := 2) rfl)) (fun _ h9 => h9) rfl dX10_mixedInto_6 ?_
  refine lv_i2l (v := 0) hx hb dX10_mixedInto_9 (by decide) ?_
  refine lv_ladd hx hb dX10_mixedInto_10 ?_
  refine lv_topl (fun y_2 e_2 => ?_)
  obtain rfl : y_2 = (-9176826638754917425) := by rw [e_2]; decide +kernel
  refine lv_lstore_n (lv' := [(1, .long (-9176826638754917425)), (0, .ref h0)]) hx hb dX10_mixedInto_11 rfl hl (by decide) rfl (fun ls hl => ?_)
  refine lv_iconst (v := 0) hx hb dX10_mixedInto_12 (by decide) ?_
  refine lv_istore_n (lv' := [(3, .int 0), (1, .long (-9176826638754917425)), (0, .ref h0)]) hx hb dX10_mixedInto_13 rfl hl (by decide) rfl (fun ls hl => ?_)
  refine lv_iload_n hx hb dX10_mixedInto_14 rfl (lv_at hl 0 rfl) ?_
  refine lv_iconst (v := 4) hx hb dX10_mixedInto_15 (by decide) ?_
  refine lv_icmp_ge (tgt := 39) hx hb dX10_mixedInto_16 (by decide) (fun c => absurd c (by decide)) (fun _ => ?_)
  refine lv_ldc2 hx hb hown (hts (.constantLong RX10 38 (31)) (List.mem_of_getElem? (i := 1) rfl)) dX10_mixedInto_19 ?_
  refine lv_lload_n hx hb dX10_mixedInto_22 rfl (lv_at hl 1 rfl) ?_
  refine lv_lmul hx hb dX10_mixedInto_23 ?_
  refine lv_topl (fun y_3 e_3 => ?_)
  obtain rfl : y_3 = (-7780464695759165935) := by rw [e_3]; decide +kernel
  refine lv_aload_n hx hb dX10_mixedInto_24 rfl (lv_at hl 2 rfl) ?_
  refine va_get (D := D) (ci := 10) (v := .ref p1) (C := RX10) (T := TX10) (N := 7) hx hb hts (fun _ h => List.mem_cons_of_mem _ (List.mem_append_right _ h)) hown hK hP 0 rfl rfl 6 (by decide) (hts (.fieldLink RX10 9 "TemplateForge$Tally" "trap" "[I") (List.mem_of_getElem? (i := 3) rfl)) (fun _ h9 => h9) rfl dX10_mixedInto_25 ?_
  refine lv_iload_n hx hb dX10_mixedInto_28 rfl (lv_at hl 0 rfl) ?_
  have hin_29 : vp_in 0 4 := by unfold vp_in; decide
  refine va_iald hx hb hK hP 1 0 rfl rfl hin_29 dX10_mixedInto_29 ?_
  refine lv_topi (fun y_5 e_5 => ?_)
  obtain rfl : y_5 = 0 := e_5
  refine lv_i2l (v := 0) hx hb dX10_mixedInto_30 (by decide) ?_
  refine lv_ladd hx hb dX10_mixedInto_31 ?_
  refine lv_topl (fun y_6 e_6 => ?_)
  obtain rfl : y_6 = (-7780464695759165935) := by rw [e_6]; decide +kernel
  refine lv_lstore_n (lv' := [(1, .long (-7780464695759165935)), (3, .int 0), (0, .ref h0)]) hx hb dX10_mixedInto_32 rfl hl (by decide) rfl (fun ls hl => ?_)
  refine lv_iinc (v := 1) (lv' := [(3, .int 1), (1, .long (-7780464695759165935)), (0, .ref h0)]) hx hb dX10_mixedInto_33 hl (k := 1) rfl (by decide) (by decide) rfl (fun ls hl => ?_)
  refine lv_goto (tgt := 14) hx hb dX10_mixedInto_36 (by decide) ?_
  refine lv_iload_n hx hb dX10_mixedInto_14 rfl (lv_at hl 0 rfl) ?_
  refine lv_iconst (v := 4) hx hb dX10_mixedInto_15 (by decide) ?_
  refine lv_icmp_ge (tgt := 39) hx hb dX10_mixedInto_16 (by decide) (fun c => absurd c (by decide)) (fun _ => ?_)
  refine lv_ldc2 hx hb hown (hts (.constantLong RX10 38 (31)) (List.mem_of_getElem? (i := 1) rfl)) dX10_mixedInto_19 ?_
  refine lv_lload_n hx hb dX10_mixedInto_22 rfl (lv_at hl 1 rfl) ?_
  refine lv_lmul hx hb dX10_mixedInto_23 ?_
  refine lv_topl (fun y_7 e_7 => ?_)
  obtain rfl : y_7 = (-1386732610309972977) := by rw [e_7]; decide +kernel
  refine lv_aload_n hx hb dX10_mixedInto_24 rfl (lv_at hl 2 rfl) ?_
  refine va_get (D := D) (ci := 10) (v := .ref p1) (C := RX10) (T := TX10) (N := 7) hx hb hts (fun _ h => List.mem_cons_of_mem _ (List.mem_append_right _ h)) hown hK hP 0 rfl rfl 6 (by decide) (hts (.fieldLink RX10 9 "TemplateForge$Tally" "trap" "[I") (List.mem_of_getElem? (i := 3) rfl)) (fun _ h9 => h9) rfl dX10_mixedInto_25 ?_
  refine lv_iload_n hx hb dX10_mixedInto_28 rfl (lv_at hl 0 rfl) ?_
  have hin_29 : vp_in 1 4 := by unfold vp_in; decide
  refine va_iald hx hb hK hP 1 0 rfl rfl hin_29 dX10_mixedInto_29 ?_
  refine lv_topi (fun y_9 e_9 => ?_)
  obtain rfl : y_9 = 0 := e_9
  refine lv_i2l (v := 0) hx hb dX10_mixedInto_30 (by decide) ?_
  refine lv_ladd hx hb dX10_mixedInto_31 ?_
  refine lv_topl (fun y_10 e_10 => ?_)
  obtain rfl : y_10 = (-1386732610309972977) := by rw [e_10]; decide +kernel
  refine lv_lstore_n (lv' := [(1, .long (-1386732610309972977)), (3, .int 1), (0, .ref h0)]) hx hb dX10_mixedInto_32 rfl hl (by decide) rfl (fun ls hl => ?_)
  refine lv_iinc (v := 2) (lv' := [(3, .int 2), (1, .long (-1386732610309972977)), (0, .ref h0)]) hx hb dX10_mixedInto_33 hl (k := 1) rfl (by decide) (by decide) rfl (fun ls hl => ?_)
  refine lv_goto (tgt := 14) hx hb dX10_mixedInto_36 (by decide) ?_
  refine lv_iload_n hx hb dX10_mixedInto_14 rfl (lv_at hl 0 rfl) ?_
  refine lv_iconst (v := 4) hx hb dX10_mixedInto_15 (by decide) ?_
  refine lv_icmp_ge (tgt := 39) hx hb dX10_mixedInto_16 (by decide) (fun c => absurd c (by decide)) (fun _ => ?_)
  refine lv_ldc2 hx hb hown (hts (.constantLong RX10 38 (31)) (List.mem_of_getElem? (i := 1) rfl)) dX10_mixedInto_19 ?_
  refine lv_lload_n hx hb dX10_mixedInto_22 rfl (lv_at hl 1 rfl) ?_
  refine lv_lmul hx hb dX10_mixedInto_23 ?_
  refine lv_topl (fun y_11 e_11 => ?_)
  obtain rfl : y_11 = (-6095222772190059055) := by rw [e_11]; decide +kernel
  refine lv_aload_n hx hb dX10_mixedInto_24 rfl (lv_at hl 2 rfl) ?_
  refine va_get (D := D) (ci := 10) (v := .ref p1) (C := RX10) (T := TX10) (N := 7) hx hb hts (fun _ h => List.mem_cons_of_mem _ (List.mem_append_right _ h)) hown hK hP 0 rfl rfl 6 (by decide) (hts (.fieldLink RX10 9 "TemplateForge$Tally" "trap" "[I") (List.mem_of_getElem? (i := 3) rfl)) (fun _ h9 => h9) rfl dX10_mixedInto_25 ?_
  refine lv_iload_n hx hb dX10_mixedInto_28 rfl (lv_at hl 0 rfl) ?_
  have hin_29 : vp_in 2 4 := by unfold vp_in; decide
  refine va_iald hx hb hK hP 1 0 rfl rfl hin_29 dX10_mixedInto_29 ?_
  refine lv_topi (fun y_13 e_13 => ?_)
  obtain rfl : y_13 = 0 := e_13
  refine lv_i2l (v := 0) hx hb dX10_mixedInto_30 (by decide) ?_
  refine lv_ladd hx hb dX10_mixedInto_31 ?_
  refine lv_topl (fun y_14 e_14 => ?_)
  obtain rfl : y_14 = (-6095222772190059055) := by rw [e_14]; decide +kernel
  refine lv_lstore_n (lv' := [(1, .long (-6095222772190059055)), (3, .int 2), (0, .ref h0)]) hx hb dX10_mixedInto_32 rfl hl (by decide) rfl (fun ls hl => ?_)
  refine lv_iinc (v := 3) (lv' := [(3, .int 3), (1, .long (-6095222772190059055)), (0, .ref h0)]) hx hb dX10_mixedInto_33 hl (k := 1) rfl (by decide) (by decide) rfl (fun ls hl => ?_)
  refine lv_goto (tgt := 14) hx hb dX10_mixedInto_36 (by decide) ?_
  refine lv_iload_n hx hb dX10_mixedInto_14 rfl (lv_at hl 0 rfl) ?_
  refine lv_iconst (v := 4) hx hb dX10_mixedInto_15 (by decide) ?_
  refine lv_icmp_ge (tgt := 39) hx hb dX10_mixedInto_16 (by decide) (fun c => absurd c (by decide)) (fun _ => ?_)
  refine lv_ldc2 hx hb hown (hts (.constantLong RX10 38 (31)) (List.mem_of_getElem? (i := 1) rfl)) dX10_mixedInto_19 ?_
  refine lv_lload_n hx hb dX10_mixedInto_22 rfl (lv_at hl 1 rfl) ?_
  refine lv_lmul hx hb dX10_mixedInto_23 ?_
  refine lv_topl (fun y_15 e_15 => ?_)
  obtain rfl : y_15 = (-4484465200796314545) := by rw [e_15]; decide +kernel
  refine lv_aload_n hx hb dX10_mixedInto_24 rfl (lv_at hl 2 rfl) ?_
  refine va_get (D := D) (ci := 10) (v := .ref p1) (C := RX10) (T := TX10) (N := 7) hx hb hts (fun _ h => List.mem_cons_of_mem _ (List.mem_append_right _ h)) hown hK hP 0 rfl rfl 6 (by decide) (hts (.fieldLink RX10 9 "TemplateForge$Tally" "trap" "[I") (List.mem_of_getElem? (i := 3) rfl)) (fun _ h9 => h9) rfl dX10_mixedInto_25 ?_
  refine lv_iload_n hx hb dX10_mixedInto_28 rfl (lv_at hl 0 rfl) ?_
  have hin_29 : vp_in 3 4 := by unfold vp_in; decide
  refine va_iald hx hb hK hP 1 0 rfl rfl hin_29 dX10_mixedInto_29 ?_
  refine lv_topi (fun y_17 e_17 => ?_)
  obtain rfl : y_17 = 0 := e_17
  refine lv_i2l (v := 0) hx hb dX10_mixedInto_30 (by decide) ?_
  refine lv_ladd hx hb dX10_mixedInto_31 ?_
  refine lv_topl (fun y_18 e_18 => ?_)
  obtain rfl : y_18 = (-4484465200796314545) := by rw [e_18]; decide +kernel
  refine lv_lstore_n (lv' := [(1, .long (-4484465200796314545)), (3, .int 3), (0, .ref h0)]) hx hb dX10_mixedInto_32 rfl hl (by decide) rfl (fun ls hl => ?_)
  refine lv_iinc (v := 4) (lv' := [(3, .int 4), (1, .long (-4484465200796314545)), (0, .ref h0)]) hx hb dX10_mixedInto_33 hl (k := 1) rfl (by decide) (by decide) rfl (fun ls hl => ?_)
  refine lv_goto (tgt := 14) hx hb dX10_mixedInto_36 (by decide) ?_
  refine lv_iload_n hx hb dX10_mixedInto_14 rfl (lv_at hl 0 rfl) ?_
  refine lv_iconst (v := 4) hx hb dX10_mixedInto_15 (by decide) ?_
  refine lv_icmp_ge (tgt := 39) hx hb dX10_mixedInto_16 (by decide) (fun _ => ?_) (fun c => absurd (by decide) c)
  refine lv_lload_n hx hb dX10_mixedInto_39 rfl (lv_at hl 1 rfl) ?_
  exact W.lret (v := (-4484465200796314545)) hx hb hr (fun t ht hW => ⟨(-4484465200796314545), rfl, rfl, ht⟩) (fun q h => by cases h) dX10_mixedInto_40

def zw_zc_X10_ofTrap : List Cond := .code yX10_ofTrap cX10_ofTrap 2 (some .int) :: ([.fieldLink RX10 9 "TemplateForge$Tally" "trap" "[I"] ++ wsX100)
set_option maxHeartbeats 4000000 in
set_option maxRecDepth 100000 in
theorem zc_X10_ofTrap (l : Launch) (D : va_G) (cI cZ cP cF : Nat) (h0 p1 : Nat) (w0 : Int32) : Met l yX10_ofTrap zw_zc_X10_ofTrap ({ frames := 0, cells := 0, slots := 0, locals := 0 }) (va_Pc [.ref h0, .int w0] (fun U => va_P D vwCl [(h0, .inr (10, [.int 0, .int 0, .int 0, .int 0, .int 0, .int 0, .ref p1])), (p1, .inl (cI, 4, .inl (fun _ => 0)))] U.heap ∧ zE D cI cZ cP cF U)) (vp_Si (fun r => r = zsel w0 4 (-2) 0)) 0 0 (fun _ => False) := by
  refine Met.ofW (cc := cX10_ofTrap) (maxL := 2) (ret := (some .int)) (by decide) rfl ?_
  intro p e s m args below meth c s₁ B hml hv
  obtain ⟨rfl, hP, hE⟩ := hv
  have hx := B.exec
  have hb := B.bytes
  have hr := B.returns
  have hts := atoms_spec (ws := zw_zc_X10_ofTrap) B.pre
  have hown : s.vm.findClass RX10 = some m.cls := findClass_of_methodNamed B.named
  have hlocks := B.notSynchronized
  have hK := hE.k
  have hP : va_P D vwCl [(h0, .inr (10, [.int 0, .int 0, .int 0, .int 0, .int 0, .int 0, .ref p1])), (p1, .inl (cI, 4, .inl (fun _ => 0)))] s.heap := hP
  have hl := lv_entry ([.ref h0, .int w0]) (n := 2) (Nat.le_of_ble_eq_true rfl)
  rw [lg_entry_eq]
  generalize (lg_sl ([.ref h0, .int w0]) ++ List.replicate (2 - (lg_sl ([.ref h0, .int w0])).length) Slot.unset).toArray = ls at hl ⊢
  have hl : lv_has ls 2 [(0, .ref h0), (1, .int w0)] := hl
  refine lv_iload_n hx hb dX10_ofTrap_0 rfl (lv_at hl 1 rfl) ?_
  refine lv_if_lt (tgt := 18) hx hb dX10_ofTrap_1 (by decide) (fun c_1 => ?_) (fun c_1 => ?_)
  · refine lv_bipush (v := (-2)) hx hb dX10_ofTrap_18 (by decide) ?_
    exact W.iret (v := (-2)) hx hb hr (fun t ht hW => ⟨(-2), rfl, by simp only [zsel, c_1, if_true, if_false], ht⟩) (fun q h => by cases h) dX10_ofTrap_20
  · refine lv_iload_n hx hb dX10_ofTrap_4 rfl (lv_at hl 1 rfl) ?_
    refine lv_iconst (v := 4) hx hb dX10_ofTrap_5 (by decide) ?_
    refine lv_icmp_ge (tgt := 18) hx hb dX10_ofTrap_6 (by decide) (fun c_6 => ?_) (fun c_6 => ?_)
    · have c_60 : ¬ w0 < 4 := Int32.not_lt.mpr c_6
      refine lv_bipush (v := (-2)) hx hb dX10_ofTrap_18 (by decide) ?_
      exact W.iret (v := (-2)) hx hb hr (fun t ht hW => ⟨(-2), rfl, by simp only [zsel, c_1, c_60, if_true, if_false], ht⟩) (fun q h => by cases h) dX10_ofTrap_20
    · have c_60 : w0 < 4 := Int32.not_le.mp c_6
      refine lv_aload_n hx hb dX10_ofTrap_9 rfl (lv_at hl 0 rfl) ?_
      refine va_get (D := D) (ci := 10) (v := .ref p1) (C := RX10) (T := TX10) (N := 7) hx hb hts (fun _ h => List.mem_cons_of_mem _ (List.mem_append_right _ h)) hown hK hP 0 rfl rfl 6 (by decide) (hts (.fieldLink RX10 9 "TemplateForge$Tally" "trap" "[I") (List.mem_of_getElem? (i := 1) rfl)) (fun _ h9 => h9) rfl dX10_ofTrap_10 ?_
      refine lv_iload_n hx hb dX10_ofTrap_13 rfl (lv_at hl 1 rfl) ?_
      have hin_14 : vp_in w0 4 := z_in (M := 4) (by decide) c_1 c_6
      refine va_iald hx hb hK hP 1 0 rfl rfl hin_14 dX10_ofTrap_14 ?_
      refine lv_topi (fun y_2 e_2 => ?_)
      obtain rfl : y_2 = 0 := e_2
      refine lv_goto (tgt := 20) hx hb dX10_ofTrap_15 (by decide) ?_
      exact W.iret (v := 0) hx hb hr (fun t ht hW => ⟨0, rfl, by simp only [zsel, c_1, c_60, if_true, if_false], ht⟩) (fun q h => by cases h) dX10_ofTrap_20
