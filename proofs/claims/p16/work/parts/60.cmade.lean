def zw_zc_X5_init : List Cond := .code yX5_init cX5_init 1 none :: ([.methodLink RX5 3 objectInit, .instanceMethod objectInit, .code objectInit ⟨#[0xb1]⟩ 1 none, .arrayClass .int, .fieldLink RX5 9 "TemplateForge$Heat" "first" "[I", .arrayClass .boolean, .fieldLink RX5 15 "TemplateForge$Heat" "same" "[Z", .fieldLink RX5 19 "TemplateForge$Heat" "varying" "[Z"] ++ wsX50)
set_option maxHeartbeats 4000000 in
set_option maxRecDepth 100000 in
theorem zc_X5_init (l : Launch) (D : va_G) (cI cZ cP cF : Nat) (h0 : Nat) (sz : Nat) : Met l yX5_init zw_zc_X5_init ({ frames := 1, cells := 3, slots := 33, locals := 12 }) (va_Pc [.ref h0] (fun U => U.heap.size = sz ∧ va_P D vwCl [(h0, .inr (5, [.int 0, .null, .int 0, .int 0, .int 0, .int 0, .null, .null, .null]))] U.heap ∧ zE D cI cZ cP cF U ∧ va_D (fun _ => True) [(h0, .inr (5, [.int 0, .null, .int 0, .int 0, .int 0, .int 0, .null, .null, .null]))])) (va_Qv (fun (_ : Unit) => True) (fun (_ : Unit) t => ∃ (q1 : Nat), ∃ (q2 : Nat), ∃ (q3 : Nat), va_P D vwCl [(h0, .inr (5, [.int 0, .null, .int 0, .int 0, .int 0, .int 0, .ref q1, .ref q2, .ref q3])), (q1, .inl (cI, 11, .inl (fun _ => 0))), (q2, .inl (cZ, 11, .inl (fun _ => 0))), (q3, .inl (cZ, 11, .inl (fun _ => 0)))] t.heap ∧ va_D (va_A [(h0, .inr (5, [.int 0, .null, .int 0, .int 0, .int 0, .int 0, .null, .null, .null]))] sz) [(h0, .inr (5, [.int 0, .null, .int 0, .int 0, .int 0, .int 0, .ref q1, .ref q2, .ref q3])), (q1, .inl (cI, 11, .inl (fun _ => 0))), (q2, .inl (cZ, 11, .inl (fun _ => 0))), (q3, .inl (cZ, 11, .inl (fun _ => 0)))]) (va_A [(h0, .inr (5, [.int 0, .null, .int 0, .int 0, .int 0, .int 0, .null, .null, .null]))] sz)) 3 33 (va_A [(h0, .inr (5, [.int 0, .null, .int 0, .int 0, .int 0, .int 0, .null, .null, .null]))] sz) := by
  refine Met.ofW (cc := cX5_init) (maxL := 1) (ret := none) (by decide) rfl ?_
  intro p e s m args below meth c s₁ B hml hv
  obtain ⟨rfl, hsz, hP, hE, hD0⟩ := hv
  have hx := B.exec
  have hb := B.bytes
  have hr := B.returns
  have hts := atoms_spec (ws := zw_zc_X5_init) B.pre
  have hown : s.vm.findClass RX5 = some m.cls := findClass_of_methodNamed B.named
  have hlocks := B.notSynchronized
  have hK := hE.k
  have hin : meth.name = "<init>" := (name_of_methodNamed B.named B.method).1
  subst hsz
  have hD := hD0.self (sz := s.heap.size)
  generalize hAe : va_A [(h0, .inr (5, [.int 0, .null, .int 0, .int 0, .int 0, .int 0, .null, .null, .null]))] s.heap.size = A at hD ⊢
  have hA : ∀ q : Nat, s.heap.size ≤ q → A q := fun q h => by rw [← hAe]; exact Or.inr h
  have hS : va_S A s.heap s.heap [] := va_S.rf
  have hP : va_P D vwCl [(h0, .inr (5, [.int 0, .null, .int 0, .int 0, .int 0, .int 0, .null, .null, .null]))] s.heap := hP
  have hl := lv_entry ([.ref h0]) (n := 1) (Nat.le_of_ble_eq_true rfl)
  rw [lg_entry_eq]
  generalize (lg_sl ([.ref h0]) ++ List.replicate (1 - (lg_sl ([.ref h0])).length) Slot.unset).toArray = ls at hl ⊢
  have hl : lv_has ls 1 [(0, .ref h0)] := hl
  refine lv_aload_n hx hb dX5_init_0 rfl (lv_at hl 0 rfl) ?_
  refine W.objInit hx hb hown (hts (.methodLink RX5 3 objectInit) (List.mem_of_getElem? (i := 1) rfl)) (hts (.instanceMethod objectInit) (List.mem_of_getElem? (i := 2) rfl)) (hts (.code objectInit ⟨#[0xb1]⟩ 1 none) (List.mem_of_getElem? (i := 3) rfl)) rfl (by rw [hml]; exact hl.1) rfl dX5_init_1 (Nat.le_of_ble_eq_true rfl) (Nat.le_of_ble_eq_true rfl) ?_
  refine W.eq (g2 := F0 m 4 ls []) rfl ?_
  refine lv_aload_n hx hb dX5_init_4 rfl (lv_at hl 0 rfl) ?_
  refine lv_bipush (v := 11) hx hb dX5_init_5 (by decide) ?_
  refine z_newI hx hb (hts (.arrayClass .int) (List.mem_of_getElem? (i := 4) rfl)) hK 0 rfl hP hD hS hA (n := 11) (N' := 11) (by decide) (by decide) (Nat.le_of_ble_eq_true rfl) (Nat.le_of_ble_eq_true rfl) (Nat.le_of_ble_eq_true rfl) dX5_init_7 (fun q1 H hP hD hS => ?_)
  have hP : va_P D vwCl [(h0, .inr (5, [.int 0, .null, .int 0, .int 0, .int 0, .int 0, .null, .null, .null])), (q1, .inl (cI, 11, .inl (fun _ => 0)))] H := hP
  have hD : va_D A [(h0, .inr (5, [.int 0, .null, .int 0, .int 0, .int 0, .int 0, .null, .null, .null])), (q1, .inl (cI, 11, .inl (fun _ => 0)))] := hD
  refine va_putF (D := D) (ci := 5) (v := .ref q1) (ty := .array .int) (C := RX5) (T := TX5) (N := 9) hx hb hts (fun _ h => List.mem_cons_of_mem _ (List.mem_append_right _ h)) tyX5 tyX5_ok nmX5 hown hK hP hD hS 0 rfl rfl 6 (by decide) (hts (.fieldLink RX5 9 "TemplateForge$Heat" "first" "[I") (List.mem_of_getElem? (i := 5) rfl)) (fun _ h9 => h9) rfl hin rfl (by decide +kernel) rfl rfl (Nat.le_of_ble_eq_true rfl) dX5_init_9 (fun H locs hP hD hS => ?_)
  have hP : va_P D vwCl [(h0, .inr (5, [.int 0, .null, .int 0, .int 0, .int 0, .int 0, .ref q1, .null, .null])), (q1, .inl (cI, 11, .inl (fun _ => 0)))] H := hP
  have hD : va_D A [(h0, .inr (5, [.int 0, .null, .int 0, .int 0, .int 0, .int 0, .ref q1, .null, .null])), (q1, .inl (cI, 11, .inl (fun _ => 0)))] := hD
  refine lv_aload_n hx hb dX5_init_12 rfl (lv_at hl 0 rfl) ?_
  refine lv_bipush (v := 11) hx hb dX5_init_13 (by decide) ?_
  refine z_newZ hx hb (hts (.arrayClass .boolean) (List.mem_of_getElem? (i := 6) rfl)) hK 1 rfl hP hD hS hA (n := 11) (N' := 11) (by decide) (by decide) (Nat.le_of_ble_eq_true rfl) (Nat.le_of_ble_eq_true rfl) (Nat.le_of_ble_eq_true rfl) dX5_init_15 (fun q2 H hP hD hS => ?_)
  have hP : va_P D vwCl [(h0, .inr (5, [.int 0, .null, .int 0, .int 0, .int 0, .int 0, .ref q1, .null, .null])), (q1, .inl (cI, 11, .inl (fun _ => 0))), (q2, .inl (cZ, 11, .inl (fun _ => 0)))] H := hP
  have hD : va_D A [(h0, .inr (5, [.int 0, .null, .int 0, .int 0, .int 0, .int 0, .ref q1, .null, .null])), (q1, .inl (cI, 11, .inl (fun _ => 0))), (q2, .inl (cZ, 11, .inl (fun _ => 0)))] := hD
  refine va_putF (D := D) (ci := 5) (v := .ref q2) (ty := .array .boolean) (C := RX5) (T := TX5) (N := 9) hx hb hts (fun _ h => List.mem_cons_of_mem _ (List.mem_append_right _ h)) tyX5 tyX5_ok nmX5 hown hK hP hD hS 0 rfl rfl 7 (by decide) (hts (.fieldLink RX5 15 "TemplateForge$Heat" "same" "[Z") (List.mem_of_getElem? (i := 7) rfl)) (fun _ h9 => h9) rfl hin rfl (by decide +kernel) rfl rfl (Nat.le_of_ble_eq_true rfl) dX5_init_17 (fun H locs hP hD hS => ?_)
  have hP : va_P D vwCl [(h0, .inr (5, [.int 0, .null, .int 0, .int 0, .int 0, .int 0, .ref q1, .ref q2, .null])), (q1, .inl (cI, 11, .inl (fun _ => 0))), (q2, .inl (cZ, 11, .inl (fun _ => 0)))] H := hP
  have hD : va_D A [(h0, .inr (5, [.int 0, .null, .int 0, .int 0, .int 0, .int 0, .ref q1, .ref q2, .null])), (q1, .inl (cI, 11, .inl (fun _ => 0))), (q2, .inl (cZ, 11, .inl (fun _ => 0)))] := hD
  refine lv_aload_n hx hb dX5_init_20 rfl (lv_at hl 0 rfl) ?_
  refine lv_bipush (v := 11) hx hb dX5_init_21 (by decide) ?_
  refine z_newZ hx hb (hts (.arrayClass .boolean) (List.mem_of_getElem? (i := 6) rfl)) hK 1 rfl hP hD hS hA (n := 11) (N' := 11) (by decide) (by decide) (Nat.le_of_ble_eq_true rfl) (Nat.le_of_ble_eq_true rfl) (Nat.le_of_ble_eq_true rfl) dX5_init_23 (fun q3 H hP hD hS => ?_)
  have hP : va_P D vwCl [(h0, .inr (5, [.int 0, .null, .int 0, .int 0, .int 0, .int 0, .ref q1, .ref q2, .null])), (q1, .inl (cI, 11, .inl (fun _ => 0))), (q2, .inl (cZ, 11, .inl (fun _ => 0))), (q3, .inl (cZ, 11, .inl (fun _ => 0)))] H := hP
  have hD : va_D A [(h0, .inr (5, [.int 0, .null, .int 0, .int 0, .int 0, .int 0, .ref q1, .ref q2, .null])), (q1, .inl (cI, 11, .inl (fun _ => 0))), (q2, .inl (cZ, 11, .inl (fun _ => 0))), (q3, .inl (cZ, 11, .inl (fun _ => 0)))] := hD
  refine va_putF (D := D) (ci := 5) (v := .ref q3) (ty := .array .boolean) (C := RX5) (T := TX5) (N := 9) hx hb hts (fun _ h => List.mem_cons_of_mem _ (List.mem_append_right _ h)) tyX5 tyX5_ok nmX5 hown hK hP hD hS 0 rfl rfl 8 (by decide) (hts (.fieldLink RX5 19 "TemplateForge$Heat" "varying" "[Z") (List.mem_of_getElem? (i := 8) rfl)) (fun _ h9 => h9) rfl hin rfl (by decide +kernel) rfl rfl (Nat.le_of_ble_eq_true rfl) dX5_init_25 (fun H locs hP hD hS => ?_)
  have hP : va_P D vwCl [(h0, .inr (5, [.int 0, .null, .int 0, .int 0, .int 0, .int 0, .ref q1, .ref q2, .ref q3])), (q1, .inl (cI, 11, .inl (fun _ => 0))), (q2, .inl (cZ, 11, .inl (fun _ => 0))), (q3, .inl (cZ, 11, .inl (fun _ => 0)))] H := hP
  have hD : va_D A [(h0, .inr (5, [.int 0, .null, .int 0, .int 0, .int 0, .int 0, .ref q1, .ref q2, .ref q3])), (q1, .inl (cI, 11, .inl (fun _ => 0))), (q2, .inl (cZ, 11, .inl (fun _ => 0))), (q3, .inl (cZ, 11, .inl (fun _ => 0)))] := hD
  have hP9 := hP.sub (ws' := [(h0, .inr (5, [.int 0, .null, .int 0, .int 0, .int 0, .int 0, .ref q1, .ref q2, .ref q3])), (q1, .inl (cI, 11, .inl (fun _ => 0))), (q2, .inl (cZ, 11, .inl (fun _ => 0))), (q3, .inl (cZ, 11, .inl (fun _ => 0)))]) [0, 1, 2, 3] rfl
  have hD9 := hD.sub (ws' := [(h0, .inr (5, [.int 0, .null, .int 0, .int 0, .int 0, .int 0, .ref q1, .ref q2, .ref q3])), (q1, .inl (cI, 11, .inl (fun _ => 0))), (q2, .inl (cZ, 11, .inl (fun _ => 0))), (q3, .inl (cZ, 11, .inl (fun _ => 0)))]) [0, 1, 2, 3] (by decide) rfl
  refine W.widen (k := 3) (n := 33) (Nat.le_of_ble_eq_true rfl) (Nat.le_of_ble_eq_true rfl) ?_
  exact W.vret hx hb hr (fun t ht hW => ⟨⟨(), rfl, trivial, q1, q2, q3, by rw [ht]; exact hP9, hD9⟩, hS.F ht⟩) hS.2.2 dX5_init_28

def zw_zc_X8_init : List Cond := .code yX8_init cX8_init 4 none :: ([.methodLink RX8 3 objectInit, .instanceMethod objectInit, .code objectInit ⟨#[0xb1]⟩ 1 none, .classLink RX8 9 RX5, .instantiable RX5 9, .initialized RX5, .code yX5_init cX5_init 1 none, .methodLink RX5 3 objectInit, .arrayClass .int, .fieldLink RX5 9 "TemplateForge$Heat" "first" "[I", .arrayClass .boolean, .fieldLink RX5 15 "TemplateForge$Heat" "same" "[Z", .fieldLink RX5 19 "TemplateForge$Heat" "varying" "[Z", .instanceMethod yX5_init, .fieldLink RX8 12 "TemplateForge$Program" "heat" "LTemplateForge$Heat;", .fieldLink RX8 18 "TemplateForge$Program" "ops" "[I", .fieldLink RX8 22 "TemplateForge$Program" "xs" "[I", .fieldLink RX8 25 "TemplateForge$Program" "depths" "[I", .fieldLink RX8 28 "TemplateForge$Program" "deepest" "I", .fieldLink RX8 32 "TemplateForge$Program" "number" "I", .fieldLink RX8 35 "TemplateForge$Program" "args" "I", .fieldLink RX8 38 "TemplateForge$Program" "locals" "I"] ++ wsX50 ++ wsX80)
set_option maxRecDepth 100000 in
theorem zg_zc_X8_init_zc_X5_init : GoodIn zw_zc_X8_init zw_zc_X5_init := goodIn_r _ [7, 8, 2, 3, 9, 10, 11, 12, 13, 23, 24, 25, 26, 27, 28, 29, 30, 31] (by decide +kernel) (by decide +kernel)
set_option maxHeartbeats 4000000 in
set_option maxRecDepth 100000 in
theorem zc_X8_init (l : Launch) (D : va_G) (cI cZ cP cF : Nat) (h0 : Nat) (n0 a0 l0 : Int32) (sz : Nat) : Met l yX8_init zw_zc_X8_init ({ frames := 2, cells := 7, slots := 222, locals := 32 }) (va_Pc [.ref h0, .int n0, .int a0, .int l0] (fun U => U.heap.size = sz ∧ va_P D vwCl [(h0, .inr (8, [.int 0, .int 0, .int 0, .null, .null, .null, .null, .int 0, .int 0, .null]))] U.heap ∧ zE D cI cZ cP cF U ∧ va_D (fun _ => True) [(h0, .inr (8, [.int 0, .int 0, .int 0, .null, .null, .null, .null, .int 0, .int 0, .null]))])) (va_Qv (fun (_ : Unit) => True) (fun (_ : Unit) t => ∃ (q1 : Nat), ∃ (q2 : Nat), ∃ (q3 : Nat), ∃ (q4 : Nat), ∃ (q5 : Nat), ∃ (q6 : Nat), ∃ (q7 : Nat), va_P D vwCl [(h0, .inr (8, [.int n0, .int a0, .int l0, .ref q1, .ref q2, .ref q3, .ref q4, .int 0, .int (-1), .null])), (q1, .inr (5, [.int 0, .null, .int 0, .int 0, .int 0, .int 0, .ref q5, .ref q6, .ref q7])), (q2, .inl (cI, 60, .inl (fun _ => 0))), (q3, .inl (cI, 60, .inl (fun _ => 0))), (q4, .inl (cI, 60, .inl (fun _ => 0))), (q5, .inl (cI, 11, .inl (fun _ => 0))), (q6, .inl (cZ, 11, .inl (fun _ => 0))), (q7, .inl (cZ, 11, .inl (fun _ => 0)))] t.heap ∧ va_D (va_A [(h0, .inr (8, [.int 0, .int 0, .int 0, .null, .null, .null, .null, .int 0, .int 0, .null]))] sz) [(h0, .inr (8, [.int n0, .int a0, .int l0, .ref q1, .ref q2, .ref q3, .ref q4, .int 0, .int (-1), .null])), (q1, .inr (5, [.int 0, .null, .int 0, .int 0, .int 0, .int 0, .ref q5, .ref q6, .ref q7])), (q2, .inl (cI, 60, .inl (fun _ => 0))), (q3, .inl (cI, 60, .inl (fun _ => 0))), (q4, .inl (cI, 60, .inl (fun _ => 0))), (q5, .inl (cI, 11, .inl (fun _ => 0))), (q6, .inl (cZ, 11, .inl (fun _ => 0))), (q7, .inl (cZ, 11, .inl (fun _ => 0)))]) (va_A [(h0, .inr (8, [.int 0, .int 0, .int 0, .null, .null, .null, .null, .int 0, .int 0, .null]))] sz)) 7 222 (va_A [(h0, .inr (8, [.int 0, .int 0, .int 0, .null, .null, .null, .null, .int 0, .int 0, .null]))] sz) := by
  refine Met.ofW (cc := cX8_init) (maxL := 4) (ret := none) (by decide) rfl ?_
  intro p e s m args below meth c s₁ B hml hv
  obtain ⟨rfl, hsz, hP, hE, hD0⟩ := hv
  have hx := B.exec
  have hb := B.bytes
  have hr := B.returns
  have hts := atoms_spec (ws := zw_zc_X8_init) B.pre
  have hown : s.vm.findClass RX8 = some m.cls := findClass_of_methodNamed B.named
  have hlocks := B.notSynchronized
  have hK := hE.k
  have hin : meth.name = "<init>" := (name_of_methodNamed B.named B.method).1
  subst hsz
  have hD := hD0.self (sz := s.heap.size)
  generalize hAe : va_A [(h0, .inr (8, [.int 0, .int 0, .int 0, .null, .null, .null, .null, .int 0, .int 0, .null]))] s.heap.size = A at hD ⊢
  have hA : ∀ q : Nat, s.heap.size ≤ q → A q := fun q h => by rw [← hAe]; exact Or.inr h
  have hS : va_S A s.heap s.heap [] := va_S.rf
  have hP : va_P D vwCl [(h0, .inr (8, [.int 0, .int 0, .int 0, .null, .null, .null, .null, .int 0, .int 0, .null]))] s.heap := hP
  have hl := lv_entry ([.ref h0, .int n0, .int a0, .int l0]) (n := 4) (Nat.le_of_ble_eq_true rfl)
  rw [lg_entry_eq]
  generalize (lg_sl ([.ref h0, .int n0, .int a0, .int l0]) ++ List.replicate (4 - (lg_sl ([.ref h0, .int n0, .int a0, .int l0])).length) Slot.unset).toArray = ls at hl ⊢
  have hl : lv_has ls 4 [(0, .ref h0), (1, .int n0), (2, .int a0), (3, .int l0)] := hl
  refine lv_aload_n hx hb dX8_init_0 rfl (lv_at hl 0 rfl) ?_
  refine W.objInit hx hb hown (hts (.methodLink RX8 3 objectInit) (List.mem_of_getElem? (i := 1) rfl)) (hts (.instanceMethod objectInit) (List.mem_of_getElem? (i := 2) rfl)) (hts (.code objectInit ⟨#[0xb1]⟩ 1 none) (List.mem_of_getElem? (i := 3) rfl)) rfl (by rw [hml]; exact hl.1) rfl dX8_init_1 (Nat.le_of_ble_eq_true rfl) (Nat.le_of_ble_eq_true rfl) ?_
  refine W.eq (g2 := F0 m 4 ls []) rfl ?_
  refine lv_aload_n hx hb dX8_init_4 rfl (lv_at hl 0 rfl) ?_
  refine va_new (ci := 5) (fs := [.int 0, .null, .int 0, .int 0, .int 0, .int 0, .null, .null, .null]) (C := RX5) (T := TX5) (N := 9) hx hb hts (fun _ h => List.mem_cons_of_mem _ (List.mem_append_left _ (List.mem_append_right _ h))) tyX5 tyX5_ok hown (hts (.classLink RX8 9 RX5) (List.mem_of_getElem? (i := 4) rfl)) (hts (.instantiable RX5 9) (List.mem_of_getElem? (i := 5) rfl)) (hts (.initialized RX5) (List.mem_of_getElem? (i := 6) rfl)) hK hP hD hS hA rfl (fun j hj => by rcases (show j = 0 ∨ j = 1 ∨ j = 2 ∨ j = 3 ∨ j = 4 ∨ j = 5 ∨ j = 6 ∨ j = 7 ∨ j = 8 by omega) with rfl | rfl | rfl | rfl | rfl | rfl | rfl | rfl | rfl <;> rfl) (Nat.le_of_ble_eq_true rfl) (Nat.le_of_ble_eq_true rfl) dX8_init_5 (fun q1 H hP hD hS => ?_)
  have hP : va_P D vwCl [(h0, .inr (8, [.int 0, .int 0, .int 0, .null, .null, .null, .null, .int 0, .int 0, .null])), (q1, .inr (5, [.int 0, .null, .int 0, .int 0, .int 0, .int 0, .null, .null, .null]))] H := hP
  have hD : va_D A [(h0, .inr (8, [.int 0, .int 0, .int 0, .null, .null, .null, .null, .int 0, .int 0, .null])), (q1, .inr (5, [.int 0, .null, .int 0, .int 0, .int 0, .int 0, .null, .null, .null]))] := hD
  refine lv_dup hx hb dX8_init_8 rfl ?_
  have hPc := hP.sub (ws' := [(q1, .inr (5, [.int 0, .null, .int 0, .int 0, .int 0, .int 0, .null, .null, .null]))]) [1] rfl
  have hDc := hD.sub (ws' := [(q1, .inr (5, [.int 0, .null, .int 0, .int 0, .int 0, .int 0, .null, .null, .null]))]) [1] (by decide) rfl
  have hFc := va_free (wc := [(q1, .inr (5, [.int 0, .null, .int 0, .int 0, .int 0, .int 0, .null, .null, .null]))]) hD hS hA [1] rfl
  refine va_callv (va_runIN (As := []) (rest := [.ref q1, .ref h0]) ⟨hx, hb, hml, hown, hts⟩ (zc_X5_init l D cI cZ cP cF q1 H.size) ⟨va_cnB 0 hts zg_zc_X8_init_zc_X5_init rfl rfl rfl hE.nX8_11 (hts (.initialized RX5) (List.mem_of_getElem? (i := 6) rfl)) (by decide +kernel) ⟨Nat.le_of_ble_eq_true rfl, Nat.le_of_ble_eq_true rfl⟩, rfl, (hts (.instanceMethod yX5_init) (List.mem_of_getElem? (i := 14) rfl))⟩ ⟨zBW, fun U hU hW => ⟨rfl, by rw [hU], by rw [hU]; exact hPc, hE.warm hW, hDc.weaken (fun _ _ _ _ => trivial)⟩⟩ rfl rfl hl.1 rfl (lv_room (Nat.le_of_ble_eq_true rfl)) dX8_init_9 ⟨Nat.le_of_ble_eq_true rfl, Nat.le_of_ble_eq_true rfl⟩) hS (fun q _ h => hFc q h) hFc (fun u t H1 locs ht hvm h_9_2 hB hz1 hk1 hS => ?_)
  obtain ⟨q3, q4, q5, hP1, hD1⟩ := hB
  rw [ht] at hP1
  obtain ⟨hP, hD⟩ := va_join (wr := [(h0, .inr (8, [.int 0, .int 0, .int 0, .null, .null, .null, .null, .int 0, .int 0, .null]))]) (w1 := [(q1, .inr (5, [.int 0, .null, .int 0, .int 0, .int 0, .int 0, .ref q3, .ref q4, .ref q5])), (q3, .inl (cI, 11, .inl (fun _ => 0))), (q4, .inl (cZ, 11, .inl (fun _ => 0))), (q5, .inl (cZ, 11, .inl (fun _ => 0)))]) hP hD [1] [0] rfl rfl (by decide) (by decide) hk1 hFc hP1 hD1
  generalize H1 = H at hP hS ⊢
  have hP : va_P D vwCl [(h0, .inr (8, [.int 0, .int 0, .int 0, .null, .null, .null, .null, .int 0, .int 0, .null])), (q1, .inr (5, [.int 0, .null, .int 0, .int 0, .int 0, .int 0, .ref q3, .ref q4, .ref q5])), (q3, .inl (cI, 11, .inl (fun _ => 0))), (q4, .inl (cZ, 11, .inl (fun _ => 0))), (q5, .inl (cZ, 11, .inl (fun _ => 0)))] H := hP
  have hD : va_D A [(h0, .inr (8, [.int 0, .int 0, .int 0, .null, .null, .null, .null, .int 0, .int 0, .null])), (q1, .inr (5, [.int 0, .null, .int 0, .int 0, .int 0, .int 0, .ref q3, .ref q4, .ref q5])), (q3, .inl (cI, 11, .inl (fun _ => 0))), (q4, .inl (cZ, 11, .inl (fun _ => 0))), (q5, .inl (cZ, 11, .inl (fun _ => 0)))] := hD
  refine va_putF (D := D) (ci := 8) (v := .ref q1) (ty := .object "TemplateForge$Heat") (C := RX8) (T := TX8) (N := 10) hx hb hts (fun _ h => List.mem_cons_of_mem _ (List.mem_append_right _ h)) tyX8 tyX8_ok nmX8 hown hK hP hD hS 0 rfl rfl 3 (by decide) (hts (.fieldLink RX8 12 "TemplateForge$Program" "heat" "LTemplateForge$Heat;") (List.mem_of_getElem? (i := 15) rfl)) (fun _ h9 => h9) rfl hin rfl (by decide +kernel) rfl rfl (Nat.le_of_ble_eq_true rfl) dX8_init_12 (fun H locs hP hD hS => ?_)
  have hP : va_P D vwCl [(h0, .inr (8, [.int 0, .int 0, .int 0, .ref q1, .null, .null, .null, .int 0, .int 0, .null])), (q1, .inr (5, [.int 0, .null, .int 0, .int 0, .int 0, .int 0, .ref q3, .ref q4, .ref q5])), (q3, .inl (cI, 11, .inl (fun _ => 0))), (q4, .inl (cZ, 11, .inl (fun _ => 0))), (q5, .inl (cZ, 11, .inl (fun _ => 0)))] H := hP
  have hD : va_D A [(h0, .inr (8, [.int 0, .int 0, .int 0, .ref q1, .null, .null, .null, .int 0, .int 0, .null])), (q1, .inr (5, [.int 0, .null, .int 0, .int 0, .int 0, .int 0, .ref q3, .ref q4, .ref q5])), (q3, .inl (cI, 11, .inl (fun _ => 0))), (q4, .inl (cZ, 11, .inl (fun _ => 0))), (q5, .inl (cZ, 11, .inl (fun _ => 0)))] := hD
  refine lv_aload_n hx hb dX8_init_15 rfl (lv_at hl 0 rfl) ?_
  refine lv_bipush (v := 60) hx hb dX8_init_16 (by decide) ?_
  refine z_newI hx hb (hts (.arrayClass .int) (List.mem_of_getElem? (i := 9) rfl)) hK 0 rfl hP hD hS hA (n := 60) (N' := 60) (by decide) (by decide) (Nat.le_of_ble_eq_true rfl) (Nat.le_of_ble_eq_true rfl) (Nat.le_of_ble_eq_true rfl) dX8_init_18 (fun q6 H hP hD hS => ?_)
  have hP : va_P D vwCl [(h0, .inr (8, [.int 0, .int 0, .int 0, .ref q1, .null, .null, .null, .int 0, .int 0, .null])), (q1, .inr (5, [.int 0, .null, .int 0, .int 0, .int 0, .int 0, .ref q3, .ref q4, .ref q5])), (q3, .inl (cI, 11, .inl (fun _ => 0))), (q4, .inl (cZ, 11, .inl (fun _ => 0))), (q5, .inl (cZ, 11, .inl (fun _ => 0))), (q6, .inl (cI, 60, .inl (fun _ => 0)))] H := hP
  have hD : va_D A [(h0, .inr (8, [.int 0, .int 0, .int 0, .ref q1, .null, .null, .null, .int 0, .int 0, .null])), (q1, .inr (5, [.int 0, .null, .int 0, .int 0, .int 0, .int 0, .ref q3, .ref q4, .ref q5])), (q3, .inl (cI, 11, .inl (fun _ => 0))), (q4, .inl (cZ, 11, .inl (fun _ => 0))), (q5, .inl (cZ, 11, .inl (fun _ => 0))), (q6, .inl (cI, 60, .inl (fun _ => 0)))] := hD
  refine va_putF (D := D) (ci := 8) (v := .ref q6) (ty := .array .int) (C := RX8) (T := TX8) (N := 10) hx hb hts (fun _ h => List.mem_cons_of_mem _ (List.mem_append_right _ h)) tyX8 tyX8_ok nmX8 hown hK hP hD hS 0 rfl rfl 4 (by decide) (hts (.fieldLink RX8 18 "TemplateForge$Program" "ops" "[I") (List.mem_of_getElem? (i := 16) rfl)) (fun _ h9 => h9) rfl hin rfl (by decide +kernel) rfl rfl (Nat.le_of_ble_eq_true rfl) dX8_init_20 (fun H locs hP hD hS => ?_)
  have hP : va_P D vwCl [(h0, .inr (8, [.int 0, .int 0, .int 0, .ref q1, .ref q6, .null, .null, .int 0, .int 0, .null])), (q1, .inr (5, [.int 0, .null, .int 0, .int 0, .int 0, .int 0, .ref q3, .ref q4, .ref q5])), (q3, .inl (cI, 11, .inl (fun _ => 0))), (q4, .inl (cZ, 11, .inl (fun _ => 0))), (q5, .inl (cZ, 11, .inl (fun _ => 0))), (q6, .inl (cI, 60, .inl (fun _ => 0)))] H := hP
  have hD : va_D A [(h0, .inr (8, [.int 0, .int 0, .int 0, .ref q1, .ref q6, .null, .null, .int 0, .int 0, .null])), (q1, .inr (5, [.int 0, .null, .int 0, .int 0, .int 0, .int 0, .ref q3, .ref q4, .ref q5])), (q3, .inl (cI, 11, .inl (fun _ => 0))), (q4, .inl (cZ, 11, .inl (fun _ => 0))), (q5, .inl (cZ, 11, .inl (fun _ => 0))), (q6, .inl (cI, 60, .inl (fun _ => 0)))] := hD
  refine lv_aload_n hx hb dX8_init_23 rfl (lv_at hl 0 rfl) ?_
  refine lv_bipush (v := 60) hx hb dX8_init_24 (by decide) ?_
  refine z_newI hx hb (hts (.arrayClass .int) (List.mem_of_getElem? (i := 9) rfl)) hK 0 rfl hP hD hS hA (n := 60) (N' := 60) (by decide) (by decide) (Nat.le_of_ble_eq_true rfl) (Nat.le_of_ble_eq_true rfl) (Nat.le_of_ble_eq_true rfl) dX8_init_26 (fun q7 H hP hD hS => ?_)
  have hP : va_P D vwCl [(h0, .inr (8, [.int 0, .int 0, .int 0, .ref q1, .ref q6, .null, .null, .int 0, .int 0, .null])), (q1, .inr (5, [.int 0, .null, .int 0, .int 0, .int 0, .int 0, .ref q3, .ref q4, .ref q5])), (q3, .inl (cI, 11, .inl (fun _ => 0))), (q4, .inl (cZ, 11, .inl (fun _ => 0))), (q5, .inl (cZ, 11, .inl (fun _ => 0))), (q6, .inl (cI, 60, .inl (fun _ => 0))), (q7, .inl (cI, 60, .inl (fun _ => 0)))] H := hP
  have hD : va_D A [(h0, .inr (8, [.int 0, .int 0, .int 0, .ref q1, .ref q6, .null, .null, .int 0, .int 0, .null])), (q1, .inr (5, [.int 0, .null, .int 0, .int 0, .int 0, .int 0, .ref q3, .ref q4, .ref q5])), (q3, .inl (cI, 11, .inl (fun _ => 0))), (q4, .inl (cZ, 11, .inl (fun _ => 0))), (q5, .inl (cZ, 11, .inl (fun _ => 0))), (q6, .inl (cI, 60, .inl (fun _ => 0))), (q7, .inl (cI, 60, .inl (fun _ => 0)))] := hD
  refine va_putF (D := D) (ci := 8) (v := .ref q7) (ty := .array .int) (C := RX8) (T := TX8) (N := 10) hx hb hts (fun _ h => List.mem_cons_of_mem _ (List.mem_append_right _ h)) tyX8 tyX8_ok nmX8 hown hK hP hD hS 0 rfl rfl 5 (by decide) (hts (.fieldLink RX8 22 "TemplateForge$Program" "xs" "[I") (List.mem_of_getElem? (i := 17) rfl)) (fun _ h9 => h9) rfl hin rfl (by decide +kernel) rfl rfl (Nat.le_of_ble_eq_true rfl) dX8_init_28 (fun H locs hP hD hS => ?_)
  have hP : va_P D vwCl [(h0, .inr (8, [.int 0, .int 0, .int 0, .ref q1, .ref q6, .ref q7, .null, .int 0, .int 0, .null])), (q1, .inr (5, [.int 0, .null, .int 0, .int 0, .int 0, .int 0, .ref q3, .ref q4, .ref q5])), (q3, .inl (cI, 11, .inl (fun _ => 0))), (q4, .inl (cZ, 11, .inl (fun _ => 0))), (q5, .inl (cZ, 11, .inl (fun _ => 0))), (q6, .inl (cI, 60, .inl (fun _ => 0))), (q7, .inl (cI, 60, .inl (fun _ => 0)))] H := hP
  have hD : va_D A [(h0, .inr (8, [.int 0, .int 0, .int 0, .ref q1, .ref q6, .ref q7, .null, .int 0, .int 0, .null])), (q1, .inr (5, [.int 0, .null, .int 0, .int 0, .int 0, .int 0, .ref q3, .ref q4, .ref q5])), (q3, .inl (cI, 11, .inl (fun _ => 0))), (q4, .inl (cZ, 11, .inl (fun _ => 0))), (q5, .inl (cZ, 11, .inl (fun _ => 0))), (q6, .inl (cI, 60, .inl (fun _ => 0))), (q7, .inl (cI, 60, .inl (fun _ => 0)))] := hD
  refine lv_aload_n hx hb dX8_init_31 rfl (lv_at hl 0 rfl) ?_
  refine lv_bipush (v := 60) hx hb dX8_init_32 (by decide) ?_
  refine z_newI hx hb (hts (.arrayClass .int) (List.mem_of_getElem? (i := 9) rfl)) hK 0 rfl hP hD hS hA (n := 60) (N' := 60) (by decide) (by decide) (Nat.le_of_ble_eq_true rfl) (Nat.le_of_ble_eq_true rfl) (Nat.le_of_ble_eq_true rfl) dX8_init_34 (fun q8 H hP hD hS => ?_)
  have hP : va_P D vwCl [(h0, .inr (8, [.int 0, .int 0, .int 0, .ref q1, .ref q6, .ref q7, .null, .int 0, .int 0, .null])), (q1, .inr (5, [.int 0, .null, .int 0, .int 0, .int 0, .int 0, .ref q3, .ref q4, .ref q5])), (q3, .inl (cI, 11, .inl (fun _ => 0))), (q4, .inl (cZ, 11, .inl (fun _ => 0))), (q5, .inl (cZ, 11, .inl (fun _ => 0))), (q6, .inl (cI, 60, .inl (fun _ => 0))), (q7, .inl (cI, 60, .inl (fun _ => 0))), (q8, .inl (cI, 60, .inl (fun _ => 0)))] H := hP
  have hD : va_D A [(h0, .inr (8, [.int 0, .int 0, .int 0, .ref q1, .ref q6, .ref q7, .null, .int 0, .int 0, .null])), (q1, .inr (5, [.int 0, .null, .int 0, .int 0, .int 0, .int 0, .ref q3, .ref q4, .ref q5])), (q3, .inl (cI, 11, .inl (fun _ => 0))), (q4, .inl (cZ, 11, .inl (fun _ => 0))), (q5, .inl (cZ, 11, .inl (fun _ => 0))), (q6, .inl (cI, 60, .inl (fun _ => 0))), (q7, .inl (cI, 60, .inl (fun _ => 0))), (q8, .inl (cI, 60, .inl (fun _ => 0)))] := hD
  refine va_putF (D := D) (ci := 8) (v := .ref q8) (ty := .array .int) (C := RX8) (T := TX8) (N := 10) hx hb hts (fun _ h => List.mem_cons_of_mem _ (List.mem_append_right _ h)) tyX8 tyX8_ok nmX8 hown hK hP hD hS 0 rfl rfl 6 (by decide) (hts (.fieldLink RX8 25 "TemplateForge$Program" "depths" "[I") (List.mem_of_getElem? (i := 18) rfl)) (fun _ h9 => h9) rfl hin rfl (by decide +kernel) rfl rfl (Nat.le_of_ble_eq_true rfl) dX8_init_36 (fun H locs hP hD hS => ?_)
  have hP : va_P D vwCl [(h0, .inr (8, [.int 0, .int 0, .int 0, .ref q1, .ref q6, .ref q7, .ref q8, .int 0, .int 0, .null])), (q1, .inr (5, [.int 0, .null, .int 0, .int 0, .int 0, .int 0, .ref q3, .ref q4, .ref q5])), (q3, .inl (cI, 11, .inl (fun _ => 0))), (q4, .inl (cZ, 11, .inl (fun _ => 0))), (q5, .inl (cZ, 11, .inl (fun _ => 0))), (q6, .inl (cI, 60, .inl (fun _ => 0))), (q7, .inl (cI, 60, .inl (fun _ => 0))), (q8, .inl (cI, 60, .inl (fun _ => 0)))] H := hP
  have hD : va_D A [(h0, .inr (8, [.int 0, .int 0, .int 0, .ref q1, .ref q6, .ref q7, .ref q8, .int 0, .int 0, .null])), (q1, .inr (5, [.int 0, .null, .int 0, .int 0, .int 0, .int 0, .ref q3, .ref q4, .ref q5])), (q3, .inl (cI, 11, .inl (fun _ => 0))), (q4, .inl (cZ, 11, .inl (fun _ => 0))), (q5, .inl (cZ, 11, .inl (fun _ => 0))), (q6, .inl (cI, 60, .inl (fun _ => 0))), (q7, .inl (cI, 60, .inl (fun _ => 0))), (q8, .inl (cI, 60, .inl (fun _ => 0)))] := hD
  refine lv_aload_n hx hb dX8_init_39 rfl (lv_at hl 0 rfl) ?_
  refine lv_iconst (v := (-1)) hx hb dX8_init_40 (by decide) ?_
  refine va_put (D := D) (ci := 8) (v := .int (-1)) (ty := .int) (C := RX8) (T := TX8) (N := 10) hx hb hts (fun _ h => List.mem_cons_of_mem _ (List.mem_append_right _ h)) tyX8 tyX8_ok nmX8 hown hK hP hD hS 0 rfl rfl 8 (by decide) (hts (.fieldLink RX8 28 "TemplateForge$Program" "deepest" "I") (List.mem_of_getElem? (i := 19) rfl)) (fun _ h9 => h9) rfl (by decide +kernel) rfl rfl (Nat.le_of_ble_eq_true rfl) dX8_init_41 (fun H locs hP hD hS => ?_)
  have hP : va_P D vwCl [(h0, .inr (8, [.int 0, .int 0, .int 0, .ref q1, .ref q6, .ref q7, .ref q8, .int 0, .int (-1), .null])), (q1, .inr (5, [.int 0, .null, .int 0, .int 0, .int 0, .int 0, .ref q3, .ref q4, .ref q5])), (q3, .inl (cI, 11, .inl (fun _ => 0))), (q4, .inl (cZ, 11, .inl (fun _ => 0))), (q5, .inl (cZ, 11, .inl (fun _ => 0))), (q6, .inl (cI, 60, .inl (fun _ => 0))), (q7, .inl (cI, 60, .inl (fun _ => 0))), (q8, .inl (cI, 60, .inl (fun _ => 0)))] H := hP
  have hD : va_D A [(h0, .inr (8, [.int 0, .int 0, .int 0, .ref q1, .ref q6, .ref q7, .ref q8, .int 0, .int (-1), .null])), (q1, .inr (5, [.int 0, .null, .int 0, .int 0, .int 0, .int 0, .ref q3, .ref q4, .ref q5])), (q3, .inl (cI, 11, .inl (fun _ => 0))), (q4, .inl (cZ, 11, .inl (fun _ => 0))), (q5, .inl (cZ, 11, .inl (fun _ => 0))), (q6, .inl (cI, 60, .inl (fun _ => 0))), (q7, .inl (cI, 60, .inl (fun _ => 0))), (q8, .inl (cI, 60, .inl (fun _ => 0)))] := hD
  refine lv_aload_n hx hb dX8_init_44 rfl (lv_at hl 0 rfl) ?_
  refine lv_iload_n hx hb dX8_init_45 rfl (lv_at hl 1 rfl) ?_
  refine va_putF (D := D) (ci := 8) (v := .int n0) (ty := .int) (C := RX8) (T := TX8) (N := 10) hx hb hts (fun _ h => List.mem_cons_of_mem _ (List.mem_append_right _ h)) tyX8 tyX8_ok nmX8 hown hK hP hD hS 0 rfl rfl 0 (by decide) (hts (.fieldLink RX8 32 "TemplateForge$Program" "number" "I") (List.mem_of_getElem? (i := 20) rfl)) (fun _ h9 => h9) rfl hin rfl (by decide +kernel) rfl rfl (Nat.le_of_ble_eq_true rfl) dX8_init_46 (fun H locs hP hD hS => ?_)
  have hP : va_P D vwCl [(h0, .inr (8, [.int n0, .int 0, .int 0, .ref q1, .ref q6, .ref q7, .ref q8, .int 0, .int (-1), .null])), (q1, .inr (5, [.int 0, .null, .int 0, .int 0, .int 0, .int 0, .ref q3, .ref q4, .ref q5])), (q3, .inl (cI, 11, .inl (fun _ => 0))), (q4, .inl (cZ, 11, .inl (fun _ => 0))), (q5, .inl (cZ, 11, .inl (fun _ => 0))), (q6, .inl (cI, 60, .inl (fun _ => 0))), (q7, .inl (cI, 60, .inl (fun _ => 0))), (q8, .inl (cI, 60, .inl (fun _ => 0)))] H := hP
  have hD : va_D A [(h0, .inr (8, [.int n0, .int 0, .int 0, .ref q1, .ref q6, .ref q7, .ref q8, .int 0, .int (-1), .null])), (q1, .inr (5, [.int 0, .null, .int 0, .int 0, .int 0, .int 0, .ref q3, .ref q4, .ref q5])), (q3, .inl (cI, 11, .inl (fun _ => 0))), (q4, .inl (cZ, 11, .inl (fun _ => 0))), (q5, .inl (cZ, 11, .inl (fun _ => 0))), (q6, .inl (cI, 60, .inl (fun _ => 0))), (q7, .inl (cI, 60, .inl (fun _ => 0))), (q8, .inl (cI, 60, .inl (fun _ => 0)))] := hD
  refine lv_aload_n hx hb dX8_init_49 rfl (lv_at hl 0 rfl) ?_
  refine lv_iload_n hx hb dX8_init_50 rfl (lv_at hl 2 rfl) ?_
  refine va_putF (D := D) (ci := 8) (v := .int a0) (ty := .int) (C := RX8) (T := TX8) (N := 10) hx hb hts (fun _ h => List.mem_cons_of_mem _ (List.mem_append_right _ h)) tyX8 tyX8_ok nmX8 hown hK hP hD hS 0 rfl rfl 1 (by decide) (hts (.fieldLink RX8 35 "TemplateForge$Program" "args" "I") (List.mem_of_getElem? (i := 21) rfl)) (fun _ h9 => h9) rfl hin rfl (by decide +kernel) rfl rfl (Nat.le_of_ble_eq_true rfl) dX8_init_51 (fun H locs hP hD hS => ?_)
  have hP : va_P D vwCl [(h0, .inr (8, [.int n0, .int a0, .int 0, .ref q1, .ref q6, .ref q7, .ref q8, .int 0, .int (-1), .null])), (q1, .inr (5, [.int 0, .null, .int 0, .int 0, .int 0, .int 0, .ref q3, .ref q4, .ref q5])), (q3, .inl (cI, 11, .inl (fun _ => 0))), (q4, .inl (cZ, 11, .inl (fun _ => 0))), (q5, .inl (cZ, 11, .inl (fun _ => 0))), (q6, .inl (cI, 60, .inl (fun _ => 0))), (q7, .inl (cI, 60, .inl (fun _ => 0))), (q8, .inl (cI, 60, .inl (fun _ => 0)))] H := hP
  have hD : va_D A [(h0, .inr (8, [.int n0, .int a0, .int 0, .ref q1, .ref q6, .ref q7, .ref q8, .int 0, .int (-1), .null])), (q1, .inr (5, [.int 0, .null, .int 0, .int 0, .int 0, .int 0, .ref q3, .ref q4, .ref q5])), (q3, .inl (cI, 11, .inl (fun _ => 0))), (q4, .inl (cZ, 11, .inl (fun _ => 0))), (q5, .inl (cZ, 11, .inl (fun _ => 0))), (q6, .inl (cI, 60, .inl (fun _ => 0))), (q7, .inl (cI, 60, .inl (fun _ => 0))), (q8, .inl (cI, 60, .inl (fun _ => 0)))] := hD
  refine lv_aload_n hx hb dX8_init_54 rfl (lv_at hl 0 rfl) ?_
  refine lv_iload_n hx hb dX8_init_55 rfl (lv_at hl 3 rfl) ?_
  refine va_putF (D := D) (ci := 8) (v := .int l0) (ty := .int) (C := RX8) (T := TX8) (N := 10) hx hb hts (fun _ h => List.mem_cons_of_mem _ (List.mem_append_right _ h)) tyX8 tyX8_ok nmX8 hown hK hP hD hS 0 rfl rfl 2 (by decide) (hts (.fieldLink RX8 38 "TemplateForge$Program" "locals" "I") (List.mem_of_getElem? (i := 22) rfl)) (fun _ h9 => h9) rfl hin rfl (by decide +kernel) rfl rfl (Nat.le_of_ble_eq_true rfl) dX8_init_56 (fun H locs hP hD hS => ?_)
  have hP : va_P D vwCl [(h0, .inr (8, [.int n0, .int a0, .int l0, .ref q1, .ref q6, .ref q7, .ref q8, .int 0, .int (-1), .null])), (q1, .inr (5, [.int 0, .null, .int 0, .int 0, .int 0, .int 0, .ref q3, .ref q4, .ref q5])), (q3, .inl (cI, 11, .inl (fun _ => 0))), (q4, .inl (cZ, 11, .inl (fun _ => 0))), (q5, .inl (cZ, 11, .inl (fun _ => 0))), (q6, .inl (cI, 60, .inl (fun _ => 0))), (q7, .inl (cI, 60, .inl (fun _ => 0))), (q8, .inl (cI, 60, .inl (fun _ => 0)))] H := hP
  have hD : va_D A [(h0, .inr (8, [.int n0, .int a0, .int l0, .ref q1, .ref q6, .ref q7, .ref q8, .int 0, .int (-1), .null])), (q1, .inr (5, [.int 0, .null, .int 0, .int 0, .int 0, .int 0, .ref q3, .ref q4, .ref q5])), (q3, .inl (cI, 11, .inl (fun _ => 0))), (q4, .inl (cZ, 11, .inl (fun _ => 0))), (q5, .inl (cZ, 11, .inl (fun _ => 0))), (q6, .inl (cI, 60, .inl (fun _ => 0))), (q7, .inl (cI, 60, .inl (fun _ => 0))), (q8, .inl (cI, 60, .inl (fun _ => 0)))] := hD
  have hP9 := hP.sub (ws' := [(h0, .inr (8, [.int n0, .int a0, .int l0, .ref q1, .ref q6, .ref q7, .ref q8, .int 0, .int (-1), .null])), (q1, .inr (5, [.int 0, .null, .int 0, .int 0, .int 0, .int 0, .ref q3, .ref q4, .ref q5])), (q6, .inl (cI, 60, .inl (fun _ => 0))), (q7, .inl (cI, 60, .inl (fun _ => 0))), (q8, .inl (cI, 60, .inl (fun _ => 0))), (q3, .inl (cI, 11, .inl (fun _ => 0))), (q4, .inl (cZ, 11, .inl (fun _ => 0))), (q5, .inl (cZ, 11, .inl (fun _ => 0)))]) [0, 1, 5, 6, 7, 2, 3, 4] rfl
  have hD9 := hD.sub (ws' := [(h0, .inr (8, [.int n0, .int a0, .int l0, .ref q1, .ref q6, .ref q7, .ref q8, .int 0, .int (-1), .null])), (q1, .inr (5, [.int 0, .null, .int 0, .int 0, .int 0, .int 0, .ref q3, .ref q4, .ref q5])), (q6, .inl (cI, 60, .inl (fun _ => 0))), (q7, .inl (cI, 60, .inl (fun _ => 0))), (q8, .inl (cI, 60, .inl (fun _ => 0))), (q3, .inl (cI, 11, .inl (fun _ => 0))), (q4, .inl (cZ, 11, .inl (fun _ => 0))), (q5, .inl (cZ, 11, .inl (fun _ => 0)))]) [0, 1, 5, 6, 7, 2, 3, 4] (by decide) rfl
  refine W.widen (k := 7) (n := 222) (Nat.le_of_ble_eq_true rfl) (Nat.le_of_ble_eq_true rfl) ?_
  exact W.vret hx hb hr (fun t ht hW => ⟨⟨(), rfl, trivial, q1, q6, q7, q8, q3, q4, q5, by rw [ht]; exact hP9, hD9⟩, hS.F ht⟩) hS.2.2 dX8_init_59

def zw_zc_X1_init : List Cond := .code yX1_init cX1_init 5 none :: ([.methodLink RX1 3 objectInit, .instanceMethod objectInit, .code objectInit ⟨#[0xb1]⟩ 1 none, .fieldLink RX1 9 "TemplateForge$Code" "making" "I", .fieldLink RX1 15 "TemplateForge$Code" "heads" "I", .fieldLink RX1 18 "TemplateForge$Code" "cells" "[I", .fieldLink RX1 22 "TemplateForge$Code" "starts" "[I"] ++ wsX10)
set_option maxHeartbeats 4000000 in
set_option maxRecDepth 100000 in
theorem zc_X1_init (l : Launch) (D : va_G) (cI cZ cP cF : Nat) (h0 p3 p4 : Nat) (m0 e0 : Int32) (sz : Nat) : Met l yX1_init zw_zc_X1_init ({ frames := 1, cells := 0, slots := 0, locals := 12 }) (va_Pc [.ref h0, .int m0, .int e0, .ref p3, .ref p4] (fun U => U.heap.size = sz ∧ va_P D vwCl [(h0, .inr (1, [.int 0, .int 0, .null, .null]))] U.heap ∧ zE D cI cZ cP cF U ∧ va_D (fun _ => True) [(h0, .inr (1, [.int 0, .int 0, .null, .null]))])) (va_Qv (fun (_ : Unit) => True) (fun (_ : Unit) t => va_P D vwCl [(h0, .inr (1, [.int m0, .int e0, .ref p3, .ref p4]))] t.heap ∧ va_D (va_A [(h0, .inr (1, [.int 0, .int 0, .null, .null]))] sz) [(h0, .inr (1, [.int m0, .int e0, .ref p3, .ref p4]))]) (va_A [(h0, .inr (1, [.int 0, .int 0, .null, .null]))] sz)) 0 0 (va_A [(h0, .inr (1, [.int 0, .int 0, .null, .null]))] sz) := by
  refine Met.ofW (cc := cX1_init) (maxL := 5) (ret := none) (by decide) rfl ?_
  intro p e s m args below meth c s₁ B hml hv
  obtain ⟨rfl, hsz, hP, hE, hD0⟩ := hv
  have hx := B.exec
  have hb := B.bytes
  have hr := B.returns
  have hts := atoms_spec (ws := zw_zc_X1_init) B.pre
  have hown : s.vm.findClass RX1 = some m.cls := findClass_of_methodNamed B.named
  have hlocks := B.notSynchronized
  have hK := hE.k
  have hin : meth.name = "<init>" := (name_of_methodNamed B.named B.method).1
  subst hsz
  have hD := hD0.self (sz := s.heap.size)
  generalize hAe : va_A [(h0, .inr (1, [.int 0, .int 0, .null, .null]))] s.heap.size = A at hD ⊢
  have hA : ∀ q : Nat, s.heap.size ≤ q → A q := fun q h => by rw [← hAe]; exact Or.inr h
  have hS : va_S A s.heap s.heap [] := va_S.rf
  have hP : va_P D vwCl [(h0, .inr (1, [.int 0, .int 0, .null, .null]))] s.heap := hP
  have hl := lv_entry ([.ref h0, .int m0, .int e0, .ref p3, .ref p4]) (n := 5) (Nat.le_of_ble_eq_true rfl)
  rw [lg_entry_eq]
  generalize (lg_sl ([.ref h0, .int m0, .int e0, .ref p3, .ref p4]) ++ List.replicate (5 - (lg_sl ([.ref h0, .int m0, .int e0, .ref p3, .ref p4])).length) Slot.unset).toArray = ls at hl ⊢
  have hl : lv_has ls 5 [(0, .ref h0), (1, .int m0), (2, .int e0), (3, .ref p3), (4, .ref p4)] := hl
  refine lv_aload_n hx hb dX1_init_0 rfl (lv_at hl 0 rfl) ?_
  refine W.objInit hx hb hown (hts (.methodLink RX1 3 objectInit) (List.mem_of_getElem? (i := 1) rfl)) (hts (.instanceMethod objectInit) (List.mem_of_getElem? (i := 2) rfl)) (hts (.code objectInit ⟨#[0xb1]⟩ 1 none) (List.mem_of_getElem? (i := 3) rfl)) rfl (by rw [hml]; exact hl.1) rfl dX1_init_1 (Nat.le_of_ble_eq_true rfl) (Nat.le_of_ble_eq_true rfl) ?_
  refine W.eq (g2 := F0 m 4 ls []) rfl ?_
  refine lv_aload_n hx hb dX1_init_4 rfl (lv_at hl 0 rfl) ?_
  refine lv_iload_n hx hb dX1_init_5 rfl (lv_at hl 1 rfl) ?_
  refine va_putF (D := D) (ci := 1) (v := .int m0) (ty := .int) (C := RX1) (T := TX1) (N := 4) hx hb hts (fun _ h => List.mem_cons_of_mem _ (List.mem_append_right _ h)) tyX1 tyX1_ok nmX1 hown hK hP hD hS 0 rfl rfl 0 (by decide) (hts (.fieldLink RX1 9 "TemplateForge$Code" "making" "I") (List.mem_of_getElem? (i := 4) rfl)) (fun _ h9 => h9) rfl hin rfl (by decide +kernel) rfl rfl (Nat.le_of_ble_eq_true rfl) dX1_init_6 (fun H locs hP hD hS => ?_)
  have hP : va_P D vwCl [(h0, .inr (1, [.int m0, .int 0, .null, .null]))] H := hP
  have hD : va_D A [(h0, .inr (1, [.int m0, .int 0, .null, .null]))] := hD
  refine lv_aload_n hx hb dX1_init_9 rfl (lv_at hl 0 rfl) ?_
  refine lv_iload_n hx hb dX1_init_10 rfl (lv_at hl 2 rfl) ?_
  refine va_putF (D := D) (ci := 1) (v := .int e0) (ty := .int) (C := RX1) (T := TX1) (N := 4) hx hb hts (fun _ h => List.mem_cons_of_mem _ (List.mem_append_right _ h)) tyX1 tyX1_ok nmX1 hown hK hP hD hS 0 rfl rfl 1 (by decide) (hts (.fieldLink RX1 15 "TemplateForge$Code" "heads" "I") (List.mem_of_getElem? (i := 5) rfl)) (fun _ h9 => h9) rfl hin rfl (by decide +kernel) rfl rfl (Nat.le_of_ble_eq_true rfl) dX1_init_11 (fun H locs hP hD hS => ?_)
  have hP : va_P D vwCl [(h0, .inr (1, [.int m0, .int e0, .null, .null]))] H := hP
  have hD : va_D A [(h0, .inr (1, [.int m0, .int e0, .null, .null]))] := hD
  refine lv_aload_n hx hb dX1_init_14 rfl (lv_at hl 0 rfl) ?_
  refine lv_aload_n hx hb dX1_init_15 rfl (lv_at hl 3 rfl) ?_
  refine va_putF (D := D) (ci := 1) (v := .ref p3) (ty := .array .int) (C := RX1) (T := TX1) (N := 4) hx hb hts (fun _ h => List.mem_cons_of_mem _ (List.mem_append_right _ h)) tyX1 tyX1_ok nmX1 hown hK hP hD hS 0 rfl rfl 2 (by decide) (hts (.fieldLink RX1 18 "TemplateForge$Code" "cells" "[I") (List.mem_of_getElem? (i := 6) rfl)) (fun _ h9 => h9) rfl hin rfl (by decide +kernel) rfl rfl (Nat.le_of_ble_eq_true rfl) dX1_init_16 (fun H locs hP hD hS => ?_)
  have hP : va_P D vwCl [(h0, .inr (1, [.int m0, .int e0, .ref p3, .null]))] H := hP
  have hD : va_D A [(h0, .inr (1, [.int m0, .int e0, .ref p3, .null]))] := hD
  refine lv_aload_n hx hb dX1_init_19 rfl (lv_at hl 0 rfl) ?_
  refine lv_aload hx hb dX1_init_20 (lv_at hl 4 rfl) ?_
  refine va_putF (D := D) (ci := 1) (v := .ref p4) (ty := .array .int) (C := RX1) (T := TX1) (N := 4) hx hb hts (fun _ h => List.mem_cons_of_mem _ (List.mem_append_right _ h)) tyX1 tyX1_ok nmX1 hown hK hP hD hS 0 rfl rfl 3 (by decide) (hts (.fieldLink RX1 22 "TemplateForge$Code" "starts" "[I") (List.mem_of_getElem? (i := 7) rfl)) (fun _ h9 => h9) rfl hin rfl (by decide +kernel) rfl rfl (Nat.le_of_ble_eq_true rfl) dX1_init_22 (fun H locs hP hD hS => ?_)
  have hP : va_P D vwCl [(h0, .inr (1, [.int m0, .int e0, .ref p3, .ref p4]))] H := hP
  have hD : va_D A [(h0, .inr (1, [.int m0, .int e0, .ref p3, .ref p4]))] := hD
  have hP9 := hP.sub (ws' := [(h0, .inr (1, [.int m0, .int e0, .ref p3, .ref p4]))]) [0] rfl
  have hD9 := hD.sub (ws' := [(h0, .inr (1, [.int m0, .int e0, .ref p3, .ref p4]))]) [0] (by decide) rfl
  refine W.widen (k := 0) (n := 0) (Nat.le_of_ble_eq_true rfl) (Nat.le_of_ble_eq_true rfl) ?_
  exact W.vret hx hb hr (fun t ht hW => ⟨⟨(), rfl, trivial, by rw [ht]; exact hP9, hD9⟩, hS.F ht⟩) hS.2.2 dX1_init_25

