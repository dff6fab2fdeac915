def zw_zc_fill4 : List Cond := .code yJ7_fill_53178 cJ7_fill_53178 4 none :: ([])
set_option maxHeartbeats 4000000 in
set_option maxRecDepth 100000 in
theorem zc_fill4 (l : Launch) (D : va_G) (cI cZ cP cF : Nat) (a0 : Nat) (f : Nat → Int32) (sz : Nat) : Met l yJ7_fill_53178 zw_zc_fill4 ({ frames := 0, cells := 0, slots := 0, locals := 0 }) (va_Pc [.ref a0, .int (-1)] (fun U => U.heap.size = sz ∧ va_P D vwCl [(a0, .inl (cI, 4, .inl f))] U.heap ∧ zE D cI cZ cP cF U ∧ va_D (fun _ => True) [(a0, .inl (cI, 4, .inl f))])) (va_Qv (fun (_ : Unit) => True) (fun (_ : Unit) t => ∃ (g : Nat → Int32), zM4 g ∧ va_P D vwCl [(a0, .inl (cI, 4, .inl g))] t.heap ∧ va_D (va_A [(a0, .inl (cI, 4, .inl f))] sz) [(a0, .inl (cI, 4, .inl g))]) (va_A [(a0, .inl (cI, 4, .inl f))] sz)) 0 0 (va_A [(a0, .inl (cI, 4, .inl f))] sz) := by
  refine Met.ofW (cc := cJ7_fill_53178) (maxL := 4) (ret := none) (by decide) rfl ?_
  intro p e s m args below meth c s₁ B hml hv
  obtain ⟨rfl, hsz, hP, hE, hD0⟩ := hv
  have hx := B.exec
  have hb := B.bytes
  have hr := B.returns
  have hts := atoms_spec (ws := zw_zc_fill4) B.pre
  have hown : s.vm.findClass RJ7 = some m.cls := findClass_of_methodNamed B.named
  have hlocks := B.notSynchronized
  have hK := hE.k
  subst hsz
  have hD := hD0.self (sz := s.heap.size)
  generalize hAe : va_A [(a0, .inl (cI, 4, .inl f))] s.heap.size = A at hD ⊢
  have hA : ∀ q : Nat, s.heap.size ≤ q → A q := fun q h => by rw [← hAe]; exact Or.inr h
  have hS : va_S A s.heap s.heap [] := va_S.rf
  have hP : va_P D vwCl [(a0, .inl (cI, 4, .inl f))] s.heap := hP
  have hl := lv_entry ([.ref a0, .int (-1)]) (n := 4) (Nat.le_of_ble_eq_true rfl)
  rw [lg_entry_eq]
  generalize (lg_sl ([.ref a0, .int (-1)]) ++ List.replicate (4 - (lg_sl ([.ref a0, .int (-1)])).length) Slot.unset).toArray = ls at hl ⊢
  have hl : lv_has ls 4 [(0, .ref a0), (1, .int (-1))] := hl
  refine lv_iconst (v := 0) hx hb dJ7_fill_53178_0 (by decide) ?_
  refine lv_istore_n (lv' := [(2, .int 0), (0, .ref a0), (1, .int (-1))]) hx hb dJ7_fill_53178_1 rfl hl (by decide) rfl (fun ls hl => ?_)
  refine lv_aload_n hx hb dJ7_fill_53178_2 rfl (lv_at hl 1 rfl) ?_
  refine va_alen hx hb hK hP 0 0 rfl rfl (v := 4) rfl dJ7_fill_53178_3 ?_
  refine lv_istore_n (lv' := [(3, .int 4), (2, .int 0), (0, .ref a0), (1, .int (-1))]) hx hb dJ7_fill_53178_4 rfl hl (by decide) rfl (fun ls hl => ?_)
  refine lv_iload_n hx hb dJ7_fill_53178_5 rfl (lv_at hl 1 rfl) ?_
  refine lv_iload_n hx hb dJ7_fill_53178_6 rfl (lv_at hl 0 rfl) ?_
  refine lv_icmp_ge (tgt := 20) hx hb dJ7_fill_53178_7 (by decide) (fun c => absurd c (by decide)) (fun _ => ?_)
  refine lv_aload_n hx hb dJ7_fill_53178_10 rfl (lv_at hl 2 rfl) ?_
  refine lv_iload_n hx hb dJ7_fill_53178_11 rfl (lv_at hl 1 rfl) ?_
  refine lv_iload_n hx hb dJ7_fill_53178_12 rfl (lv_at hl 3 rfl) ?_
  have hin_13 : vp_in 0 4 := by unfold vp_in; decide
  refine va_iast hx hb hK hP hD hS 0 0 rfl rfl hin_13 dJ7_fill_53178_13 (fun H locs hP hD hS => ?_)
  have hP : va_P D vwCl [(a0, .inl (cI, 4, .inl (upd f (0 : Int32).toNatClampNeg (-1))))] H := hP
  have hD : va_D A [(a0, .inl (cI, 4, .inl (upd f (0 : Int32).toNatClampNeg (-1))))] := hD
  refine lv_iinc (v := 1) (lv' := [(2, .int 1), (3, .int 4), (0, .ref a0), (1, .int (-1))]) hx hb dJ7_fill_53178_14 hl (k := 1) rfl (by decide) (by decide) rfl (fun ls hl => ?_)
  refine lv_goto (tgt := 5) hx hb dJ7_fill_53178_17 (by decide) ?_
  refine lv_iload_n hx hb dJ7_fill_53178_5 rfl (lv_at hl 0 rfl) ?_
  refine lv_iload_n hx hb dJ7_fill_53178_6 rfl (lv_at hl 1 rfl) ?_
  refine lv_icmp_ge (tgt := 20) hx hb dJ7_fill_53178_7 (by decide) (fun c => absurd c (by decide)) (fun _ => ?_)
  refine lv_aload_n hx hb dJ7_fill_53178_10 rfl (lv_at hl 2 rfl) ?_
  refine lv_iload_n hx hb dJ7_fill_53178_11 rfl (lv_at hl 0 rfl) ?_
  refine lv_iload_n hx hb dJ7_fill_53178_12 rfl (lv_at hl 3 rfl) ?_
  have hin_13 : vp_in 1 4 := by unfold vp_in; decide
  refine va_iast hx hb hK hP hD hS 0 0 rfl rfl hin_13 dJ7_fill_53178_13 (fun H locs hP hD hS => ?_)
  have hP : va_P D vwCl [(a0, .inl (cI, 4, .inl (upd (upd f (0 : Int32).toNatClampNeg (-1)) (1 : Int32).toNatClampNeg (-1))))] H := hP
  have hD : va_D A [(a0, .inl (cI, 4, .inl (upd (upd f (0 : Int32).toNatClampNeg (-1)) (1 : Int32).toNatClampNeg (-1))))] := hD
  refine lv_iinc (v := 2) (lv' := [(2, .int 2), (3, .int 4), (0, .ref a0), (1, .int (-1))]) hx hb dJ7_fill_53178_14 hl (k := 0) rfl (by decide) (by decide) rfl (fun ls hl => ?_)
  refine lv_goto (tgt := 5) hx hb dJ7_fill_53178_17 (by decide) ?_
  refine lv_iload_n hx hb dJ7_fill_53178_5 rfl (lv_at hl 0 rfl) ?_
  refine lv_iload_n hx hb dJ7_fill_53178_6 rfl (lv_at hl 1 rfl) ?_
  refine lv_icmp_ge (tgt := 20) hx hb dJ7_fill_53178_7 (by decide) (fun c => absurd c (by decide)) (fun _ => ?_)
  refine lv_aload_n hx hb dJ7_fill_53178_10 rfl (lv_at hl 2 rfl) ?_
  refine lv_iload_n hx hb dJ7_fill_53178_11 rfl (lv_at hl 0 rfl) ?_
  refine lv_iload_n hx hb dJ7_fill_53178_12 rfl (lv_at hl 3 rfl) ?_
  have hin_13 : vp_in 2 4 := by unfold vp_in; decide
  refine va_iast hx hb hK hP hD hS 0 0 rfl rfl hin_13 dJ7_fill_53178_13 (fun H locs hP hD hS => ?_)
  have hP : va_P D vwCl [(a0, .inl (cI, 4, .inl (upd (upd (upd f (0 : Int32).toNatClampNeg (-1)) (1 : Int32).toNatClampNeg (-1)) (2 : Int32).toNatClampNeg (-1))))] H := hP
  have hD : va_D A [(a0, .inl (cI, 4, .inl (upd (upd (upd f (0 : Int32).toNatClampNeg (-1)) (1 : Int32).toNatClampNeg (-1)) (2 : Int32).toNatClampNeg (-1))))] := hD
  refine lv_iinc (v := 3) (lv' := [(2, .int 3), (3, .int 4), (0, .ref a0), (1, .int (-1))]) hx hb dJ7_fill_53178_14 hl (k := 0) rfl (by decide) (by decide) rfl (fun ls hl => ?_)
  refine lv_goto (tgt := 5) hx hb dJ7_fill_53178_17 (by decide) ?_
  refine lv_iload_n hx hb dJ7_fill_53178_5 rfl (lv_at hl 0 rfl) ?_
  refine lv_iload_n hx hb dJ7_fill_53178_6 rfl (lv_at hl 1 rfl) ?_
  refine lv_icmp_ge (tgt := 20) hx hb dJ7_fill_53178_7 (by decide) (fun c => absurd c (by decide)) (fun _ => ?_)
  refine lv_aload_n hx hb dJ7_fill_53178_10 rfl (lv_at hl 2 rfl) ?_
  refine lv_iload_n hx hb dJ7_fill_53178_11 rfl (lv_at hl 0 rfl) ?_
  refine lv_iload_n hx hb dJ7_fill_53178_12 rfl (lv_at hl 3 rfl) ?_
  have hin_13 : vp_in 3 4 := by unfold vp_in; decide
  refine va_iast hx hb hK hP hD hS 0 0 rfl rfl hin_13 dJ7_fill_53178_13 (fun H locs hP hD hS => ?_)
  have hP : va_P D vwCl [(a0, .inl (cI, 4, .inl (upd (upd (upd (upd f (0 : Int32).toNatClampNeg (-1)) (1 : Int32).toNatClampNeg (-1)) (2 : Int32).toNatClampNeg (-1)) (3 : Int32).toNatClampNeg (-1))))] H := hP
  have hD : va_D A [(a0, .inl (cI, 4, .inl (upd (upd (upd (upd f (0 : Int32).toNatClampNeg (-1)) (1 : Int32).toNatClampNeg (-1)) (2 : Int32).toNatClampNeg (-1)) (3 : Int32).toNatClampNeg (-1))))] := hD
  refine lv_iinc (v := 4) (lv' := [(2, .int 4), (3, .int 4), (0, .ref a0), (1, .int (-1))]) hx hb dJ7_fill_53178_14 hl (k := 0) rfl (by decide) (by decide) rfl (fun ls hl => ?_)
  refine lv_goto (tgt := 5) hx hb dJ7_fill_53178_17 (by decide) ?_
  refine lv_iload_n hx hb dJ7_fill_53178_5 rfl (lv_at hl 0 rfl) ?_
  refine lv_iload_n hx hb dJ7_fill_53178_6 rfl (lv_at hl 1 rfl) ?_
  refine lv_icmp_ge (tgt := 20) hx hb dJ7_fill_53178_7 (by decide) (fun _ => ?_) (fun c => absurd (by decide) c)
  have hP9 := hP.sub (ws' := [(a0, .inl (cI, 4, .inl (upd (upd (upd (upd f (0 : Int32).toNatClampNeg (-1)) (1 : Int32).toNatClampNeg (-1)) (2 : Int32).toNatClampNeg (-1)) (3 : Int32).toNatClampNeg (-1))))]) [0] rfl
  have hD9 := hD.sub (ws' := [(a0, .inl (cI, 4, .inl (upd (upd (upd (upd f (0 : Int32).toNatClampNeg (-1)) (1 : Int32).toNatClampNeg (-1)) (2 : Int32).toNatClampNeg (-1)) (3 : Int32).toNatClampNeg (-1))))]) [0] (by decide) rfl
  refine W.widen (k := 0) (n := 0) (Nat.le_of_ble_eq_true rfl) (Nat.le_of_ble_eq_true rfl) ?_
  exact W.vret hx hb hr (fun t ht hW => ⟨⟨(), rfl, trivial, (upd (upd (upd (upd f (0 : Int32).toNatClampNeg (-1)) (1 : Int32).toNatClampNeg (-1)) (2 : Int32).toNatClampNeg (-1)) (3 : Int32).toNatClampNeg (-1)), zM4_4 f, by rw [ht]; exact hP9, hD9⟩, hS.F ht⟩) hS.2.2 dJ7_fill_53178_20

def zw_zc_X3_init : List Cond := .code yX3_init cX3_init 1 none :: ([.methodLink RX3 3 objectInit, .instanceMethod objectInit, .code objectInit ⟨#[0xb1]⟩ 1 none, .arrayClass .int, .fieldLink RX3 9 "TemplateForge$Draft" "cells" "[I", .fieldLink RX3 15 "TemplateForge$Draft" "starts" "[I"] ++ wsX30)
set_option maxHeartbeats 4000000 in
set_option maxRecDepth 100000 in
theorem zc_X3_init (l : Launch) (D : va_G) (cI cZ cP cF : Nat) (h0 : Nat) (sz : Nat) : Met l yX3_init zw_zc_X3_init ({ frames := 1, cells := 2, slots := 7615, locals := 12 }) (va_Pc [.ref h0] (fun U => U.heap.size = sz ∧ va_P D vwCl [(h0, .inr (3, [.null, .null, .int 0]))] U.heap ∧ zE D cI cZ cP cF U ∧ va_D (fun _ => True) [(h0, .inr (3, [.null, .null, .int 0]))])) (va_Qv (fun (_ : Unit) => True) (fun (_ : Unit) t => va_P D vwCl [] t.heap ∧ va_D (va_A [(h0, .inr (3, [.null, .null, .int 0]))] sz) []) (va_A [(h0, .inr (3, [.null, .null, .int 0]))] sz)) 2 7615 (va_A [(h0, .inr (3, [.null, .null, .int 0]))] sz) := by
  refine Met.ofW (cc := cX3_init) (maxL := 1) (ret := none) (by decide) rfl ?_
  intro p e s m args below meth c s₁ B hml hv
  obtain ⟨rfl, hsz, hP, hE, hD0⟩ := hv
  have hx := B.exec
  have hb := B.bytes
  have hr := B.returns
  have hts := atoms_spec (ws := zw_zc_X3_init) B.pre
  have hown : s.vm.findClass RX3 = some m.cls := findClass_of_methodNamed B.named
  have hlocks := B.notSynchronized
  have hK := hE.k
  have hin : meth.name = "<init>" := (name_of_methodNamed B.named B.method).1
  subst hsz
  have hD := hD0.self (sz := s.heap.size)
  generalize hAe : va_A [(h0, .inr (3, [.null, .null, .int 0]))] s.heap.size = A at hD ⊢
  have hA : ∀ q : Nat, s.heap.size ≤ q → A q := fun q h => by rw [← hAe]; exact Or.inr h
  have hS : va_S A s.heap s.heap [] := va_S.rf
  have hP : va_P D vwCl [(h0, .inr (3, [.null, .null, .int 0]))] s.heap := hP
  have hl := lv_entry ([.ref h0]) (n := 1) (Nat.le_of_ble_eq_true rfl)
  rw [lg_entry_eq]
  generalize (lg_sl ([.ref h0]) ++ List.replicate (1 - (lg_sl ([.ref h0])).length) Slot.unset).toArray = ls at hl ⊢
  have hl : lv_has ls 1 [(0, .ref h0)] := hl
  refine lv_aload_n hx hb dX3_init_0 rfl (lv_at hl 0 rfl) ?_
  refine W.objInit hx hb hown (hts (.methodLink RX3 3 objectInit) (List.mem_of_getElem? (i := 1) rfl)) (hts (.instanceMethod objectInit) (List.mem_of_getElem? (i := 2) rfl)) (hts (.code objectInit ⟨#[0xb1]⟩ 1 none) (List.mem_of_getElem? (i := 3) rfl)) rfl (by rw [hml]; exact hl.1) rfl dX3_init_1 (Nat.le_of_ble_eq_true rfl) (Nat.le_of_ble_eq_true rfl) ?_
  refine W.eq (g2 := F0 m 4 ls []) rfl ?_
  refine lv_aload_n hx hb dX3_init_4 rfl (lv_at hl 0 rfl) ?_
  refine lv_sipush (v := 7555) hx hb dX3_init_5 (by decide) ?_
  refine z_newI hx hb (hts (.arrayClass .int) (List.mem_of_getElem? (i := 4) rfl)) hK 0 rfl hP hD hS hA (n := 7555) (N' := 7555) (by decide) (by decide) (Nat.le_of_ble_eq_true rfl) (Nat.le_of_ble_eq_true rfl) (Nat.le_of_ble_eq_true rfl) dX3_init_8 (fun q1 H hP hD hS => ?_)
  have hP : va_P D vwCl [(h0, .inr (3, [.null, .null, .int 0])), (q1, .inl (cI, 7555, .inl (fun _ => 0)))] H := hP
  have hD : va_D A [(h0, .inr (3, [.null, .null, .int 0])), (q1, .inl (cI, 7555, .inl (fun _ => 0)))] := hD
  refine va_putF (D := D) (ci := 3) (v := .ref q1) (ty := .array .int) (C := RX3) (T := TX3) (N := 3) hx hb hts (fun _ h => List.mem_cons_of_mem _ (List.mem_append_right _ h)) tyX3 tyX3_ok nmX3 hown hK hP hD hS 0 rfl rfl 0 (by decide) (hts (.fieldLink RX3 9 "TemplateForge$Draft" "cells" "[I") (List.mem_of_getElem? (i := 5) rfl)) (fun _ h9 => h9) rfl hin rfl (by decide +kernel) rfl rfl (Nat.le_of_ble_eq_true rfl) dX3_init_10 (fun H locs hP hD hS => ?_)
  have hP : va_P D vwCl [(h0, .inr (3, [.ref q1, .null, .int 0])), (q1, .inl (cI, 7555, .inl (fun _ => 0)))] H := hP
  have hD : va_D A [(h0, .inr (3, [.ref q1, .null, .int 0])), (q1, .inl (cI, 7555, .inl (fun _ => 0)))] := hD
  refine lv_aload_n hx hb dX3_init_13 rfl (lv_at hl 0 rfl) ?_
  refine lv_bipush (v := 60) hx hb dX3_init_14 (by decide) ?_
  refine z_newI hx hb (hts (.arrayClass .int) (List.mem_of_getElem? (i := 4) rfl)) hK 0 rfl hP hD hS hA (n := 60) (N' := 60) (by decide) (by decide) (Nat.le_of_ble_eq_true rfl) (Nat.le_of_ble_eq_true rfl) (Nat.le_of_ble_eq_true rfl) dX3_init_16 (fun q2 H hP hD hS => ?_)
  have hP : va_P D vwCl [(h0, .inr (3, [.ref q1, .null, .int 0])), (q1, .inl (cI, 7555, .inl (fun _ => 0))), (q2, .inl (cI, 60, .inl (fun _ => 0)))] H := hP
  have hD : va_D A [(h0, .inr (3, [.ref q1, .null, .int 0])), (q1, .inl (cI, 7555, .inl (fun _ => 0))), (q2, .inl (cI, 60, .inl (fun _ => 0)))] := hD
  refine va_putF (D := D) (ci := 3) (v := .ref q2) (ty := .array .int) (C := RX3) (T := TX3) (N := 3) hx hb hts (fun _ h => List.mem_cons_of_mem _ (List.mem_append_right _ h)) tyX3 tyX3_ok nmX3 hown hK hP hD hS 0 rfl rfl 1 (by decide) (hts (.fieldLink RX3 15 "TemplateForge$Draft" "starts" "[I") (List.mem_of_getElem? (i := 6) rfl)) (fun _ h9 => h9) rfl hin rfl (by decide +kernel) rfl rfl (Nat.le_of_ble_eq_true rfl) dX3_init_18 (fun H locs hP hD hS => ?_)
  have hP : va_P D vwCl [(h0, .inr (3, [.ref q1, .ref q2, .int 0])), (q1, .inl (cI, 7555, .inl (fun _ => 0))), (q2, .inl (cI, 60, .inl (fun _ => 0)))] H := hP
  have hD : va_D A [(h0, .inr (3, [.ref q1, .ref q2, .int 0])), (q1, .inl (cI, 7555, .inl (fun _ => 0))), (q2, .inl (cI, 60, .inl (fun _ => 0)))] := hD
  have hP9 := hP.sub (ws' := []) [] rfl
  have hD9 := hD.sub (ws' := []) [] (by decide) rfl
  refine W.widen (k := 2) (n := 7615) (Nat.le_of_ble_eq_true rfl) (Nat.le_of_ble_eq_true rfl) ?_
  exact W.vret hx hb hr (fun t ht hW => ⟨⟨(), rfl, trivial, by rw [ht]; exact hP9, hD9⟩, hS.F ht⟩) hS.2.2 dX3_init_21

def zw_zc_X0_init : List Cond := .code yX0_init cX0_init 1 none :: ([.methodLink RX0 3 objectInit, .instanceMethod objectInit, .code objectInit ⟨#[0xb1]⟩ 1 none, .classLink RX0 9 RX8, .fieldLink RX0 11 "TemplateForge$Book" "programs" "[LTemplateForge$Program;"] ++ wsX00)
set_option maxHeartbeats 4000000 in
set_option maxRecDepth 100000 in
theorem zc_X0_init (l : Launch) (D : va_G) (cI cZ cP cF : Nat) (h0 : Nat) (sz : Nat) : Met l yX0_init zw_zc_X0_init ({ frames := 1, cells := 1, slots := 8, locals := 12 }) (va_Pc [.ref h0] (fun U => U.heap.size = sz ∧ va_P D vwCl [(h0, .inr (0, [.null, .int 0]))] U.heap ∧ zE D cI cZ cP cF U ∧ va_D (fun _ => True) [(h0, .inr (0, [.null, .int 0]))])) (va_Qv (fun (_ : Unit) => True) (fun (_ : Unit) t => ∃ (q1 : Nat), va_P D vwCl [(h0, .inr (0, [.ref q1, .int 0])), (q1, .inl (cP, 8, .inr (.inr (.inr (.inr (fun _ => none))))))] t.heap ∧ va_D (va_A [(h0, .inr (0, [.null, .int 0]))] sz) [(h0, .inr (0, [.ref q1, .int 0])), (q1, .inl (cP, 8, .inr (.inr (.inr (.inr (fun _ => none))))))]) (va_A [(h0, .inr (0, [.null, .int 0]))] sz)) 1 8 (va_A [(h0, .inr (0, [.null, .int 0]))] sz) := by
  refine Met.ofW (cc := cX0_init) (maxL := 1) (ret := none) (by decide) rfl ?_
  intro p e s m args below meth c s₁ B hml hv
  obtain ⟨rfl, hsz, hP, hE, hD0⟩ := hv
  have hx := B.exec
  have hb := B.bytes
  have hr := B.returns
  have hts := atoms_spec (ws := zw_zc_X0_init) B.pre
  have hown : s.vm.findClass RX0 = some m.cls := findClass_of_methodNamed B.named
  have hlocks := B.notSynchronized
  have hK := hE.k
  have hin : meth.name = "<init>" := (name_of_methodNamed B.named B.method).1
  subst hsz
  have hD := hD0.self (sz := s.heap.size)
  generalize hAe : va_A [(h0, .inr (0, [.null, .int 0]))] s.heap.size = A at hD ⊢
  have hA : ∀ q : Nat, s.heap.size ≤ q → A q := fun q h => by rw [← hAe]; exact Or.inr h
  have hS : va_S A s.heap s.heap [] := va_S.rf
  have hP : va_P D vwCl [(h0, .inr (0, [.null, .int 0]))] s.heap := hP
  have hl := lv_entry ([.ref h0]) (n := 1) (Nat.le_of_ble_eq_true rfl)
  rw [lg_entry_eq]
  generalize (lg_sl ([.ref h0]) ++ List.replicate (1 - (lg_sl ([.ref h0])).length) Slot.unset).toArray = ls at hl ⊢
  have hl : lv_has ls 1 [(0, .ref h0)] := hl
  refine lv_aload_n hx hb dX0_init_0 rfl (lv_at hl 0 rfl) ?_
  refine W.objInit hx hb hown (hts (.methodLink RX0 3 objectInit) (List.mem_of_getElem? (i := 1) rfl)) (hts (.instanceMethod objectInit) (List.mem_of_getElem? (i := 2) rfl)) (hts (.code objectInit ⟨#[0xb1]⟩ 1 none) (List.mem_of_getElem? (i := 3) rfl)) rfl (by rw [hml]; exact hl.1) rfl dX0_init_1 (Nat.le_of_ble_eq_true rfl) (Nat.le_of_ble_eq_true rfl) ?_
  refine W.eq (g2 := F0 m 4 ls []) rfl ?_
  refine lv_aload_n hx hb dX0_init_4 rfl (lv_at hl 0 rfl) ?_
  refine lv_bipush (v := 8) hx hb dX0_init_5 (by decide) ?_
  refine z_newQ hx hb hown (hts (.classLink RX0 9 RX8) (List.mem_of_getElem? (i := 4) rfl)) hE.aoP hK 2 rfl hP hD hS hA (n := 8) (N' := 8) (by decide) (by decide) (Nat.le_of_ble_eq_true rfl) (Nat.le_of_ble_eq_true rfl) (Nat.le_of_ble_eq_true rfl) dX0_init_7 (fun q1 H hP hD hS => ?_)
  have hP : va_P D vwCl [(h0, .inr (0, [.null, .int 0])), (q1, .inl (cP, 8, .inr (.inr (.inr (.inr (fun _ => none))))))] H := hP
  have hD : va_D A [(h0, .inr (0, [.null, .int 0])), (q1, .inl (cP, 8, .inr (.inr (.inr (.inr (fun _ => none))))))] := hD
  refine va_putF (D := D) (ci := 0) (v := .ref q1) (ty := .array (.object "TemplateForge$Program")) (C := RX0) (T := TX0) (N := 2) hx hb hts (fun _ h => List.mem_cons_of_mem _ (List.mem_append_right _ h)) tyX0 tyX0_ok nmX0 hown hK hP hD hS 0 rfl rfl 0 (by decide) (hts (.fieldLink RX0 11 "TemplateForge$Book" "programs" "[LTemplateForge$Program;") (List.mem_of_getElem? (i := 5) rfl)) (fun _ h9 => h9) rfl hin rfl (by decide +kernel) rfl rfl (Nat.le_of_ble_eq_true rfl) dX0_init_10 (fun H locs hP hD hS => ?_)
  have hP : va_P D vwCl [(h0, .inr (0, [.ref q1, .int 0])), (q1, .inl (cP, 8, .inr (.inr (.inr (.inr (fun _ => none))))))] H := hP
  have hD : va_D A [(h0, .inr (0, [.ref q1, .int 0])), (q1, .inl (cP, 8, .inr (.inr (.inr (.inr (fun _ => none))))))] := hD
  have hP9 := hP.sub (ws' := [(h0, .inr (0, [.ref q1, .int 0])), (q1, .inl (cP, 8, .inr (.inr (.inr (.inr (fun _ => none))))))]) [0, 1] rfl
  have hD9 := hD.sub (ws' := [(h0, .inr (0, [.ref q1, .int 0])), (q1, .inl (cP, 8, .inr (.inr (.inr (.inr (fun _ => none))))))]) [0, 1] (by decide) rfl
  refine W.widen (k := 1) (n := 8) (Nat.le_of_ble_eq_true rfl) (Nat.le_of_ble_eq_true rfl) ?_
  exact W.vret hx hb hr (fun t ht hW => ⟨⟨(), rfl, trivial, q1, by rw [ht]; exact hP9, hD9⟩, hS.F ht⟩) hS.2.2 dX0_init_13

def zw_zc_X2_init : List Cond := .code yX2_init cX2_init 1 none :: ([.methodLink RX2 3 objectInit, .instanceMethod objectInit, .code objectInit ⟨#[0xb1]⟩ 1 none, .arrayClass .int, .fieldLink RX2 9 "TemplateForge$Data" "fields" "[I", .fieldLink RX2 15 "TemplateForge$Data" "lengths" "[I", .fieldLink RX2 18 "TemplateForge$Data" "items" "[I", .code yJ7_fill_53178 cJ7_fill_53178 4 none, .methodLink RX2 21 yJ7_fill_53178, .static yJ7_fill_53178, .initialized RJ7] ++ wsX20)
set_option maxRecDepth 100000 in
theorem zg_zc_X2_init_zc_fill4 : GoodIn zw_zc_X2_init (va_wsS RX2 21 yJ7_fill_53178 zw_zc_fill4) := goodIn_r _ [9, 10, 11, 8] (by decide +kernel) (by decide +kernel)
set_option maxHeartbeats 4000000 in
set_option maxRecDepth 100000 in
theorem zc_X2_init (l : Launch) (D : va_G) (cI cZ cP cF : Nat) (h0 : Nat) (sz : Nat) : Met l yX2_init zw_zc_X2_init ({ frames := 1, cells := 3, slots := 92, locals := 23 }) (va_Pc [.ref h0] (fun U => U.heap.size = sz ∧ va_P D vwCl [(h0, .inr (2, [.null, .null, .null]))] U.heap ∧ zE D cI cZ cP cF U ∧ va_D (fun _ => True) [(h0, .inr (2, [.null, .null, .null]))])) (va_Qv (fun (_ : Unit) => True) (fun (_ : Unit) t => ∃ (q1 : Nat), ∃ (q2 : Nat), ∃ (q3 : Nat), ∃ (g : Nat → Int32), zM4 g ∧ va_P D vwCl [(h0, .inr (2, [.ref q1, .ref q2, .ref q3])), (q1, .inl (cI, 8, .inl (fun _ => 0))), (q2, .inl (cI, 4, .inl g)), (q3, .inl (cI, 80, .inl (fun _ => 0)))] t.heap ∧ va_D (va_A [(h0, .inr (2, [.null, .null, .null]))] sz) [(h0, .inr (2, [.ref q1, .ref q2, .ref q3])), (q1, .inl (cI, 8, .inl (fun _ => 0))), (q2, .inl (cI, 4, .inl g)), (q3, .inl (cI, 80, .inl (fun _ => 0)))]) (va_A [(h0, .inr (2, [.null, .null, .null]))] sz)) 3 92 (va_A [(h0, .inr (2, [.null, .null, .null]))] sz) := by
  refine Met.ofW (cc := cX2_init) (maxL := 1) (ret := none) (by decide) rfl ?_
  intro p e s m args below meth c s₁ B hml hv
  obtain ⟨rfl, hsz, hP, hE, hD0⟩ := hv
  have hx := B.exec
  have hb := B.bytes
  have hr := B.returns
  have hts := atoms_spec (ws := zw_zc_X2_init) B.pre
  have hown : s.vm.findClass RX2 = some m.cls := findClass_of_methodNamed B.named
  have hlocks := B.notSynchronized
  have hK := hE.k
  have hin : meth.name = "<init>" := (name_of_methodNamed B.named B.method).1
  subst hsz
  have hD := hD0.self (sz := s.heap.size)
  generalize hAe : va_A [(h0, .inr (2, [.null, .null, .null]))] s.heap.size = A at hD ⊢
  have hA : ∀ q : Nat, s.heap.size ≤ q → A q := fun q h => by rw [← hAe]; exact Or.inr h
  have hS : va_S A s.heap s.heap [] := va_S.rf
  have hP : va_P D vwCl [(h0, .inr (2, [.null, .null, .null]))] s.heap := hP
  have hl := lv_entry ([.ref h0]) (n := 1) (Nat.le_of_ble_eq_true rfl)
  rw [lg_entry_eq]
  generalize (lg_sl ([.ref h0]) ++ List.replicate (1 - (lg_sl ([.ref h0])).length) Slot.unset).toArray = ls at hl ⊢
  have hl : lv_has ls 1 [(0, .ref h0)] := hl
  refine lv_aload_n hx hb dX2_init_0 rfl (lv_at hl 0 rfl) ?_
  refine W.objInit hx hb hown (hts (.methodLink RX2 3 objectInit) (List.mem_of_getElem? (i := 1) rfl)) (hts (.instanceMethod objectInit) (List.mem_of_getElem? (i := 2) rfl)) (hts (.code objectInit ⟨#[0xb1]⟩ 1 none) (List.mem_of_getElem? (i := 3) rfl)) rfl (by rw [hml]; exact hl.1) rfl dX2_init_1 (Nat.le_of_ble_eq_true rfl) (Nat.le_of_ble_eq_true rfl) ?_
  refine W.eq (g2 := F0 m 4 ls []) rfl ?_
  refine lv_aload_n hx hb dX2_init_4 rfl (lv_at hl 0 rfl) ?_
  refine lv_bipush (v := 8) hx hb dX2_init_5 (by decide) ?_
  refine z_newI hx hb (hts (.arrayClass .int) (List.mem_of_getElem? (i := 4) rfl)) hK 0 rfl hP hD hS hA (n := 8) (N' := 8) (by decide) (by decide) (Nat.le_of_ble_eq_true rfl) (Nat.le_of_ble_eq_true rfl) (Nat.le_of_ble_eq_true rfl) dX2_init_7 (fun q1 H hP hD hS => ?_)
  have hP : va_P D vwCl [(h0, .inr (2, [.null, .null, .null])), (q1, .inl (cI, 8, .inl (fun _ => 0)))] H := hP
  have hD : va_D A [(h0, .inr (2, [.null, .null, .null])), (q1, .inl (cI, 8, .inl (fun _ => 0)))] := hD
  refine va_putF (D := D) (ci := 2) (v := .ref q1) (ty := .array .int) (C := RX2) (T := TX2) (N := 3) hx hb hts (fun _ h => List.mem_cons_of_mem _ (List.mem_append_right _ h)) tyX2 tyX2_ok nmX2 hown hK hP hD hS 0 rfl rfl 0 (by decide) (hts (.fieldLink RX2 9 "TemplateForge$Data" "fields" "[I") (List.mem_of_getElem? (i := 5) rfl)) (fun _ h9 => h9) rfl hin rfl (by decide +kernel) rfl rfl (Nat.le_of_ble_eq_true rfl) dX2_init_9 (fun H locs hP hD hS => ?_)
  have hP : va_P D vwCl [(h0, .inr (2, [.ref q1, .null, .null])), (q1, .inl (cI, 8, .inl (fun _ => 0)))] H := hP
  have hD : va_D A [(h0, .inr (2, [.ref q1, .null, .null])), (q1, .inl (cI, 8, .inl (fun _ => 0)))] := hD
  refine lv_aload_n hx hb dX2_init_12 rfl (lv_at hl 0 rfl) ?_
  refine lv_iconst (v := 4) hx hb dX2_init_13 (by decide) ?_
  refine z_newI hx hb (hts (.arrayClass .int) (List.mem_of_getElem? (i := 4) rfl)) hK 0 rfl hP hD hS hA (n := 4) (N' := 4) (by decide) (by decide) (Nat.le_of_ble_eq_true rfl) (Nat.le_of_ble_eq_true rfl) (Nat.le_of_ble_eq_true rfl) dX2_init_14 (fun q2 H hP hD hS => ?_)
  have hP : va_P D vwCl [(h0, .inr (2, [.ref q1, .null, .null])), (q1, .inl (cI, 8, .inl (fun _ => 0))), (q2, .inl (cI, 4, .inl (fun _ => 0)))] H := hP
  have hD : va_D A [(h0, .inr (2, [.ref q1, .null, .null])), (q1, .inl (cI, 8, .inl (fun _ => 0))), (q2, .inl (cI, 4, .inl (fun _ => 0)))] := hD
  refine va_putF (D := D) (ci := 2) (v := .ref q2) (ty := .array .int) (C := RX2) (T := TX2) (N := 3) hx hb hts (fun _ h => List.mem_cons_of_mem _ (List.mem_append_right _ h)) tyX2 tyX2_ok nmX2 hown hK hP hD hS 0 rfl rfl 1 (by decide) (hts (.fieldLink RX2 15 "TemplateForge$Data" "lengths" "[I") (List.mem_of_getElem? (i := 6) rfl)) (fun _ h9 => h9) rfl hin rfl (by decide +kernel) rfl rfl (Nat.le_of_ble_eq_true rfl) dX2_init_16 (fun H locs hP hD hS => ?_)
  have hP : va_P D vwCl [(h0, .inr (2, [.ref q1, .ref q2, .null])), (q1, .inl (cI, 8, .inl (fun _ => 0))), (q2, .inl (cI, 4, .inl (fun _ => 0)))] H := hP
  have hD : va_D A [(h0, .inr (2, [.ref q1, .ref q2, .null])), (q1, .inl (cI, 8, .inl (fun _ => 0))), (q2, .inl (cI, 4, .inl (fun _ => 0)))] := hD
  refine lv_aload_n hx hb dX2_init_19 rfl (lv_at hl 0 rfl) ?_
  refine lv_bipush (v := 80) hx hb dX2_init_20 (by decide) ?_
  refine z_newI hx hb (hts (.arrayClass .int) (List.mem_of_getElem? (i := 4) rfl)) hK 0 rfl hP hD hS hA (n := 80) (N' := 80) (by decide) (by decide) (Nat.le_of_ble_eq_true rfl) (Nat.le_of_ble_eq_true rfl) (Nat.le_of_ble_eq_true rfl) dX2_init_22 (fun q3 H hP hD hS => ?_)
  have hP : va_P D vwCl [(h0, .inr (2, [.ref q1, .ref q2, .null])), (q1, .inl (cI, 8, .inl (fun _ => 0))), (q2, .inl (cI, 4, .inl (fun _ => 0))), (q3, .inl (cI, 80, .inl (fun _ => 0)))] H := hP
  have hD : va_D A [(h0, .inr (2, [.ref q1, .ref q2, .null])), (q1, .inl (cI, 8, .inl (fun _ => 0))), (q2, .inl (cI, 4, .inl (fun _ => 0))), (q3, .inl (cI, 80, .inl (fun _ => 0)))] := hD
  refine va_putF (D := D) (ci := 2) (v := .ref q3) (ty := .array .int) (C := RX2) (T := TX2) (N := 3) hx hb hts (fun _ h => List.mem_cons_of_mem _ (List.mem_append_right _ h)) tyX2 tyX2_ok nmX2 hown hK hP hD hS 0 rfl rfl 2 (by decide) (hts (.fieldLink RX2 18 "TemplateForge$Data" "items" "[I") (List.mem_of_getElem? (i := 7) rfl)) (fun _ h9 => h9) rfl hin rfl (by decide +kernel) rfl rfl (Nat.le_of_ble_eq_true rfl) dX2_init_24 (fun H locs hP hD hS => ?_)
  have hP : va_P D vwCl [(h0, .inr (2, [.ref q1, .ref q2, .ref q3])), (q1, .inl (cI, 8, .inl (fun _ => 0))), (q2, .inl (cI, 4, .inl (fun _ => 0))), (q3, .inl (cI, 80, .inl (fun _ => 0)))] H := hP
  have hD : va_D A [(h0, .inr (2, [.ref q1, .ref q2, .ref q3])), (q1, .inl (cI, 8, .inl (fun _ => 0))), (q2, .inl (cI, 4, .inl (fun _ => 0))), (q3, .inl (cI, 80, .inl (fun _ => 0)))] := hD
  refine lv_aload_n hx hb dX2_init_27 rfl (lv_at hl 0 rfl) ?_
  refine va_get (D := D) (ci := 2) (v := .ref q2) (C := RX2) (T := TX2) (N := 3) hx hb hts (fun _ h => List.mem_cons_of_mem _ (List.mem_append_right _ h)) hown hK hP 0 rfl rfl 1 (by decide) (hts (.fieldLink RX2 15 "TemplateForge$Data" "lengths" "[I") (List.mem_of_getElem? (i := 6) rfl)) (fun _ h9 => h9) rfl dX2_init_28 ?_
  refine lv_iconst (v := (-1)) hx hb dX2_init_31 (by decide) ?_
  have hPc := hP.sub (ws' := [(q2, .inl (cI, 4, .inl (fun _ => 0)))]) [2] rfl
  have hDc := hD.sub (ws' := [(q2, .inl (cI, 4, .inl (fun _ => 0)))]) [2] (by decide) rfl
  have hFc := va_free (wc := [(q2, .inl (cI, 4, .inl (fun _ => 0)))]) hD hS hA [2] rfl
  refine va_callv (va_runS (As := [.ref q2, .int (-1)]) (rest := []) ⟨hx, hb, hml, hown, hts⟩ (zc_fill4 l D cI cZ cP cF q2 (fun _ => 0) H.size) (va_cwS 2 hts zg_zc_X2_init_zc_fill4 rfl rfl rfl (by decide +kernel) ⟨Nat.le_of_ble_eq_true rfl, Nat.le_of_ble_eq_true rfl⟩) ⟨zBW, fun U hU hW => ⟨rfl, by rw [hU], by rw [hU]; exact hPc, hE.warm hW, hDc.weaken (fun _ _ _ _ => trivial)⟩⟩ rfl rfl hl.1 rfl (lv_room (Nat.le_of_ble_eq_true rfl)) dX2_init_32 ⟨Nat.le_of_ble_eq_true rfl, Nat.le_of_ble_eq_true rfl⟩) hS (fun q _ h => hFc q h) hFc (fun u t H1 locs ht hvm h_32_4 hB hz1 hk1 hS => ?_)
  obtain ⟨q5, hM_6, hP1, hD1⟩ := hB
  rw [ht] at hP1
  obtain ⟨hP, hD⟩ := va_join (wr := [(h0, .inr (2, [.ref q1, .ref q2, .ref q3])), (q1, .inl (cI, 8, .inl (fun _ => 0))), (q3, .inl (cI, 80, .inl (fun _ => 0)))]) (w1 := [(q2, .inl (cI, 4, .inl q5))]) hP hD [2] [0, 1, 3] rfl rfl (by decide) (by decide) hk1 hFc hP1 hD1
  generalize H1 = H at hP hS ⊢
  have hP : va_P D vwCl [(h0, .inr (2, [.ref q1, .ref q2, .ref q3])), (q1, .inl (cI, 8, .inl (fun _ => 0))), (q3, .inl (cI, 80, .inl (fun _ => 0))), (q2, .inl (cI, 4, .inl q5))] H := hP
  have hD : va_D A [(h0, .inr (2, [.ref q1, .ref q2, .ref q3])), (q1, .inl (cI, 8, .inl (fun _ => 0))), (q3, .inl (cI, 80, .inl (fun _ => 0))), (q2, .inl (cI, 4, .inl q5))] := hD
  have hP9 := hP.sub (ws' := [(h0, .inr (2, [.ref q1, .ref q2, .ref q3])), (q1, .inl (cI, 8, .inl (fun _ => 0))), (q2, .inl (cI, 4, .inl q5)), (q3, .inl (cI, 80, .inl (fun _ => 0)))]) [0, 1, 3, 2] rfl
  have hD9 := hD.sub (ws' := [(h0, .inr (2, [.ref q1, .ref q2, .ref q3])), (q1, .inl (cI, 8, .inl (fun _ => 0))), (q2, .inl (cI, 4, .inl q5)), (q3, .inl (cI, 80, .inl (fun _ => 0)))]) [0, 1, 3, 2] (by decide) rfl
  refine W.widen (k := 3) (n := 92) (Nat.le_of_ble_eq_true rfl) (Nat.le_of_ble_eq_true rfl) ?_
  exact W.vret hx hb hr (fun t ht hW => ⟨⟨(), rfl, trivial, q1, q2, q3, q5, hM_6, by rw [ht]; exact hP9, hD9⟩, hS.F ht⟩) hS.2.2 dX2_init_35

def zw_zc_X4_init : List Cond := .code yX4_init cX4_init 1 none :: ([.methodLink RX4 3 objectInit, .instanceMethod objectInit, .code objectInit ⟨#[0xb1]⟩ 1 none, .arrayClass .int, .fieldLink RX4 9 "TemplateForge$Frame" "registers" "[I"] ++ wsX40)
set_option maxHeartbeats 4000000 in
set_option maxRecDepth 100000 in
theorem zc_X4_init (l : Launch) (D : va_G) (cI cZ cP cF : Nat) (h0 : Nat) (sz : Nat) : Met l yX4_init zw_zc_X4_init ({ frames := 1, cells := 1, slots := 15, locals := 12 }) (va_Pc [.ref h0] (fun U => U.heap.size = sz ∧ va_P D vwCl [(h0, .inr (4, [.null, .null, .int 0, .int 0, .null]))] U.heap ∧ zE D cI cZ cP cF U ∧ va_D (fun _ => True) [(h0, .inr (4, [.null, .null, .int 0, .int 0, .null]))])) (va_Qv (fun (_ : Unit) => True) (fun (_ : Unit) t => ∃ (q1 : Nat), va_P D vwCl [(h0, .inr (4, [.null, .null, .int 0, .int 0, .ref q1]))] t.heap ∧ va_D (va_A [(h0, .inr (4, [.null, .null, .int 0, .int 0, .null]))] sz) [(h0, .inr (4, [.null, .null, .int 0, .int 0, .ref q1]))]) (va_A [(h0, .inr (4, [.null, .null, .int 0, .int 0, .null]))] sz)) 1 15 (va_A [(h0, .inr (4, [.null, .null, .int 0, .int 0, .null]))] sz) := by
  refine Met.ofW (cc := cX4_init) (maxL := 1) (ret := none) (by decide) rfl ?_
  intro p e s m args below meth c s₁ B hml hv
  obtain ⟨rfl, hsz, hP, hE, hD0⟩ := hv
  have hx := B.exec
  have hb := B.bytes
  have hr := B.returns
  have hts := atoms_spec (ws := zw_zc_X4_init) B.pre
  have hown : s.vm.findClass RX4 = some m.cls := findClass_of_methodNamed B.named
  have hlocks := B.notSynchronized
  have hK := hE.k
  have hin : meth.name = "<init>" := (name_of_methodNamed B.named B.method).1
  subst hsz
  have hD := hD0.self (sz := s.heap.size)
  generalize hAe : va_A [(h0, .inr (4, [.null, .null, .int 0, .int 0, .null]))] s.heap.size = A at hD ⊢
  have hA : ∀ q : Nat, s.heap.size ≤ q → A q := fun q h => by rw [← hAe]; exact Or.inr h
  have hS : va_S A s.heap s.heap [] := va_S.rf
  have hP : va_P D vwCl [(h0, .inr (4, [.null, .null, .int 0, .int 0, .null]))] s.heap := hP
  have hl := lv_entry ([.ref h0]) (n := 1) (Nat.le_of_ble_eq_true rfl)
  rw [lg_entry_eq]
  generalize (lg_sl ([.ref h0]) ++ List.replicate (1 - (lg_sl ([.ref h0])).length) Slot.unset).toArray = ls at hl ⊢
  have hl : lv_has ls 1 [(0, .ref h0)] := hl
  refine lv_aload_n hx hb dX4_init_0 rfl (lv_at hl 0 rfl) ?_
  refine W.objInit hx hb hown (hts (.methodLink RX4 3 objectInit) (List.mem_of_getElem? (i := 1) rfl)) (hts (.instanceMethod objectInit) (List.mem_of_getElem? (i := 2) rfl)) (hts (.code objectInit ⟨#[0xb1]⟩ 1 none) (List.mem_of_getElem? (i := 3) rfl)) rfl (by rw [hml]; exact hl.1) rfl dX4_init_1 (Nat.le_of_ble_eq_true rfl) (Nat.le_of_ble_eq_true rfl) ?_
  refine W.eq (g2 := F0 m 4 ls []) rfl ?_
  refine lv_aload_n hx hb dX4_init_4 rfl (lv_at hl 0 rfl) ?_
  refine lv_bipush (v := 15) hx hb dX4_init_5 (by decide) ?_
  refine z_newI hx hb (hts (.arrayClass .int) (List.mem_of_getElem? (i := 4) rfl)) hK 0 rfl hP hD hS hA (n := 15) (N' := 15) (by decide) (by decide) (Nat.le_of_ble_eq_true rfl) (Nat.le_of_ble_eq_true rfl) (Nat.le_of_ble_eq_true rfl) dX4_init_7 (fun q1 H hP hD hS => ?_)
  have hP : va_P D vwCl [(h0, .inr (4, [.null, .null, .int 0, .int 0, .null])), (q1, .inl (cI, 15, .inl (fun _ => 0)))] H := hP
  have hD : va_D A [(h0, .inr (4, [.null, .null, .int 0, .int 0, .null])), (q1, .inl (cI, 15, .inl (fun _ => 0)))] := hD
  refine va_putF (D := D) (ci := 4) (v := .ref q1) (ty := .array .int) (C := RX4) (T := TX4) (N := 5) hx hb hts (fun _ h => List.mem_cons_of_mem _ (List.mem_append_right _ h)) tyX4 tyX4_ok nmX4 hown hK hP hD hS 0 rfl rfl 4 (by decide) (hts (.fieldLink RX4 9 "TemplateForge$Frame" "registers" "[I") (List.mem_of_getElem? (i := 5) rfl)) (fun _ h9 => h9) rfl hin rfl (by decide +kernel) rfl rfl (Nat.le_of_ble_eq_true rfl) dX4_init_9 (fun H locs hP hD hS => ?_)
  have hP : va_P D vwCl [(h0, .inr (4, [.null, .null, .int 0, .int 0, .ref q1])), (q1, .inl (cI, 15, .inl (fun _ => 0)))] H := hP
  have hD : va_D A [(h0, .inr (4, [.null, .null, .int 0, .int 0, .ref q1])), (q1, .inl (cI, 15, .inl (fun _ => 0)))] := hD
  have hP9 := hP.sub (ws' := [(h0, .inr (4, [.null, .null, .int 0, .int 0, .ref q1]))]) [0] rfl
  have hD9 := hD.sub (ws' := [(h0, .inr (4, [.null, .null, .int 0, .int 0, .ref q1]))]) [0] (by decide) rfl
  refine W.widen (k := 1) (n := 15) (Nat.le_of_ble_eq_true rfl) (Nat.le_of_ble_eq_true rfl) ?_
  exact W.vret hx hb hr (fun t ht hW => ⟨⟨(), rfl, trivial, q1, by rw [ht]; exact hP9, hD9⟩, hS.F ht⟩) hS.2.2 dX4_init_12

def zw_zc_X5_init : List Cond := .code yX5_init cX5_init 1 none :: ([.methodLink RX5 3 objectInit, .instanceMethod objectInit, .code objectInit ⟨#[0xb1]⟩ 1 none, .arrayClass .int, .fieldLink RX5 9 "TemplateForge$Heat" "first" "[I", .arrayClass .boolean, .fieldLink RX5 15 "TemplateForge$Heat" "same" "[Z", .fieldLink RX5 19 "TemplateForge$Heat" "varying" "[Z"] ++ wsX50)
set_option maxHeartbeats 4000000 in
set_option maxRecDepth 100000 in
theorem zc_X5_init (l : Launch) (D : va_G) (cI cZ cP cF : Nat) (h0 : Nat) (sz : Nat) : Met l yX5_init zw_zc_X5_init ({ frames := 1, cells := 3, slots := 33, locals := 12 }) (va_Pc [.ref h0] (fun U => U.heap.size = sz ∧ va_P D vwCl [(h0, .inr (5, [.int 0, .null, .int 0, .int 0, .int 0, .int 0, .null, .null, .null]))] U.heap ∧ zE D cI cZ cP cF U ∧ va_D (fun _ => True) [(h0, .inr (5, [.int 0, .null, .int 0, .int 0, .int 0, .int 0, .null, .null, .null]))])) (va_Qv (fun (_ : Unit) => True) (fun (_ : Unit) t => va_P D vwCl [] t.heap ∧ va_D (va_A [(h0, .inr (5, [.int 0, .null, .int 0, .int 0, .int 0, .int 0, .null, .null, .null]))] sz) []) (va_A [(h0, .inr (5, [.int 0, .null, .int 0, .int 0, .int 0, .int 0, .null, .null, .null]))] sz)) 3 33 (va_A [(h0, .inr (5, [.int 0, .null, .int 0, .int 0, .int 0, .int 0, .null, .null, .null]))] sz) := by
  refine Met.ofW (cc := cX5_init) (maxL := 1) (ret := none) (by decide) rfl ?_
  intro p e s m args below meth c s₁ B hml hv
  obtain ⟨rfl, hsz, hP, hE, hD0⟩ := hv
  have hx := B.exec
  have hb := B.bytes
  have hr := B.returns
  have hts := atoms_spec (ws := zw_zc_X5_init) B.pre
  have hown : s.vm.findClass RX5 = some m.cls := findClass_of_methodNamed B.named
  have hlocks := B.notSynchronized
  have hK := hE.k
  have hin : meth.name = "<init>" := (name_of_methodNamed B.named B.method).1
  subst hsz
  have hD := hD0.self (sz := s.heap.size)
  generalize hAe : va_A [(h0, .inr (5, [.int 0, .null, .int 0, .int 0, .int 0, .int 0, .null, .null, .null]))] s.heap.size = A at hD ⊢
  have hA : ∀ q : Nat, s.heap.size ≤ q → A q := fun q h => by rw [← hAe]; exact Or.inr h
  have hS : va_S A s.heap s.heap [] := va_S.rf
  have hP : va_P D vwCl [(h0, .inr (5, [.int 0, .null, .int 0, .int 0, .int 0, .int 0, .null, .null, .null]))] s.heap := hP
  have hl := lv_entry ([.ref h0]) (n := 1) (Nat.le_of_ble_eq_true rfl)
  rw [lg_entry_eq]
  generalize (lg_sl ([.ref h0]) ++ List.replicate (1 - (lg_sl ([.ref h0])).length) Slot.unset).toArray = ls at hl ⊢
  have hl : lv_has ls 1 [(0, .ref h0)] := hl
  refine lv_aload_n hx hb dX5_init_0 rfl (lv_at hl 0 rfl) ?_
  refine W.objInit hx hb hown (hts (.methodLink RX5 3 objectInit) (List.mem_of_getElem? (i := 1) rfl)) (hts (.instanceMethod objectInit) (List.mem_of_getElem? (i := 2) rfl)) (hts (.code objectInit ⟨#[0xb1]⟩ 1 none) (List.mem_of_getElem? (i := 3) rfl)) rfl (by rw [hml]; exact hl.1) rfl dX5_init_1 (Nat.le_of_ble_eq_true rfl) (Nat.le_of_ble_eq_true rfl) ?_
  refine W.eq (g2 := F0 m 4 ls []) rfl ?_
  refine lv_aload_n hx hb dX5_init_4 rfl (lv_at hl 0 rfl) ?_
  refine lv_bipush (v := 11) hx hb dX5_init_5 (by decide) ?_
  refine z_newI hx hb (hts (.arrayClass .int) (List.mem_of_getElem? (i := 4) rfl)) hK 0 rfl hP hD hS hA (n := 11) (N' := 11) (by decide) (by decide) (Nat.le_of_ble_eq_true rfl) (Nat.le_of_ble_eq_true rfl) (Nat.le_of_ble_eq_true rfl) dX5_init_7 (fun q1 H hP hD hS => ?_)
  have hP : va_P D vwCl [(h0, .inr (5, [.int 0, .null, .int 0, .int 0, .int 0, .int 0, .null, .null, .null])), (q1, .inl (cI, 11, .inl (fun _ => 0)))] H := hP
  have hD : va_D A [(h0, .inr (5, [.int 0, .null, .int 0, .int 0, .int 0, .int 0, .null, .null, .null])), (q1, .inl (cI, 11, .inl (fun _ => 0)))] := hD
  refine va_putF (D := D) (ci := 5) (v := .ref q1) (ty := .array .int) (C := RX5) (T := TX5) (N := 9) hx hb hts (fun _ h => List.mem_cons_of_mem _ (List.mem_append_right _ h)) tyX5 tyX5_ok nmX5 hown hK hP hD hS 0 rfl rfl 6 (by decide) (hts (.fieldLink RX5 9 "TemplateForge$Heat" "first" "[I") (List.mem_of_getElem? (i := 5) rfl)) (fun _ h9 => h9) rfl hin rfl (by decide +kernel) rfl rfl (Nat.le_of_ble_eq_true rfl) dX5_init_9 (fun H locs hP hD hS => ?_)
  have hP : va_P D vwCl [(h0, .inr (5, [.int 0, .null, .int 0, .int 0, .int 0, .int 0, .ref q1, .null, .null])), (q1, .inl (cI, 11, .inl (fun _ => 0)))] H := hP
  have hD : va_D A [(h0, .inr (5, [.int 0, .null, .int 0, .int 0, .int 0, .int 0, .ref q1, .null, .null])), (q1, .inl (cI, 11, .inl (fun _ => 0)))] := hD
  refine lv_aload_n hx hb dX5_init_12 rfl (lv_at hl 0 rfl) ?_
  refine lv_bipush (v := 11) hx hb dX5_init_13 (by decide) ?_
  refine z_newZ hx hb (hts (.arrayClass .boolean) (List.mem_of_getElem? (i := 6) rfl)) hK 1 rfl hP hD hS hA (n := 11) (N' := 11) (by decide) (by decide) (Nat.le_of_ble_eq_true rfl) (Nat.le_of_ble_eq_true rfl) (Nat.le_of_ble_eq_true rfl) dX5_init_15 (fun q2 H hP hD hS => ?_)
  have hP : va_P D vwCl [(h0, .inr (5, [.int 0, .null, .int 0, .int 0, .int 0, .int 0, .ref q1, .null, .null])), (q1, .inl (cI, 11, .inl (fun _ => 0))), (q2, .inl (cZ, 11, .inl (fun _ => 0)))] H := hP
  have hD : va_D A [(h0, .inr (5, [.int 0, .null, .int 0, .int 0, .int 0, .int 0, .ref q1, .null, .null])), (q1, .inl (cI, 11, .inl (fun _ => 0))), (q2, .inl (cZ, 11, .inl (fun _ => 0)))] := hD
  refine va_putF (D := D) (ci := 5) (v := .ref q2) (ty := .array .boolean) (C := RX5) (T := TX5) (N := 9) hx hb hts (fun _ h => List.mem_cons_of_mem _ (List.mem_append_right _ h)) tyX5 tyX5_ok nmX5 hown hK hP hD hS 0 rfl rfl 7 (by decide) (hts (.fieldLink RX5 15 "TemplateForge$Heat" "same" "[Z") (List.mem_of_getElem? (i := 7) rfl)) (fun _ h9 => h9) rfl hin rfl (by decide +kernel) rfl rfl (Nat.le_of_ble_eq_true rfl) dX5_init_17 (fun H locs hP hD hS => ?_)
  have hP : va_P D vwCl [(h0, .inr (5, [.int 0, .null, .int 0, .int 0, .int 0, .int 0, .ref q1, .ref q2, .null])), (q1, .inl (cI, 11, .inl (fun _ => 0))), (q2, .inl (cZ, 11, .inl (fun _ => 0)))] H := hP
  have hD : va_D A [(h0, .inr (5, [.int 0, .null, .int 0, .int 0, .int 0, .int 0, .ref q1, .ref q2, .null])), (q1, .inl (cI, 11, .inl (fun _ => 0))), (q2, .inl (cZ, 11, .inl (fun _ => 0)))] := hD
  refine lv_aload_n hx hb dX5_init_20 rfl (lv_at hl 0 rfl) ?_
  refine lv_bipush (v := 11) hx hb dX5_init_21 (by decide) ?_
  refine z_newZ hx hb (hts (.arrayClass .boolean) (List.mem_of_getElem? (i := 6) rfl)) hK 1 rfl hP hD hS hA (n := 11) (N' := 11) (by decide) (by decide) (Nat.le_of_ble_eq_true rfl) (Nat.le_of_ble_eq_true rfl) (Nat.le_of_ble_eq_true rfl) dX5_init_23 (fun q3 H hP hD hS => ?_)
  have hP : va_P D vwCl [(h0, .inr (5, [.int 0, .null, .int 0, .int 0, .int 0, .int 0, .ref q1, .ref q2, .null])), (q1, .inl (cI, 11, .inl (fun _ => 0))), (q2, .inl (cZ, 11, .inl (fun _ => 0))), (q3, .inl (cZ, 11, .inl (fun _ => 0)))] H := hP
  have hD : va_D A [(h0, .inr (5, [.int 0, .null, .int 0, .int 0, .int 0, .int 0, .ref q1, .ref q2, .null])), (q1, .inl (cI, 11, .inl (fun _ => 0))), (q2, .inl (cZ, 11, .inl (fun _ => 0))), (q3, .inl (cZ, 11, .inl (fun _ => 0)))] := hD
  refine va_putF (D := D) (ci := 5) (v := .ref q3) (ty := .array .boolean) (C := RX5) (T := TX5) (N := 9) hx hb hts (fun _ h => List.mem_cons_of_mem _ (List.mem_append_right _ h)) tyX5 tyX5_ok nmX5 hown hK hP hD hS 0 rfl rfl 8 (by decide) (hts (.fieldLink RX5 19 "TemplateForge$Heat" "varying" "[Z") (List.mem_of_getElem? (i := 8) rfl)) (fun _ h9 => h9) rfl hin rfl (by decide +kernel) rfl rfl (Nat.le_of_ble_eq_true rfl) dX5_init_25 (fun H locs hP hD hS => ?_)
  have hP : va_P D vwCl [(h0, .inr (5, [.int 0, .null, .int 0, .int 0, .int 0, .int 0, .ref q1, .ref q2, .ref q3])), (q1, .inl (cI, 11, .inl (fun _ => 0))), (q2, .inl (cZ, 11, .inl (fun _ => 0))), (q3, .inl (cZ, 11, .inl (fun _ => 0)))] H := hP
  have hD : va_D A [(h0, .inr (5, [.int 0, .null, .int 0, .int 0, .int 0, .int 0, .ref q1, .ref q2, .ref q3])), (q1, .inl (cI, 11, .inl (fun _ => 0))), (q2, .inl (cZ, 11, .inl (fun _ => 0))), (q3, .inl (cZ, 11, .inl (fun _ => 0)))] := hD
  have hP9 := hP.sub (ws' := []) [] rfl
  have hD9 := hD.sub (ws' := []) [] (by decide) rfl
  refine W.widen (k := 3) (n := 33) (Nat.le_of_ble_eq_true rfl) (Nat.le_of_ble_eq_true rfl) ?_
  exact W.vret hx hb hr (fun t ht hW => ⟨⟨(), rfl, trivial, by rw [ht]; exact hP9, hD9⟩, hS.F ht⟩) hS.2.2 dX5_init_28

def zw_zc_X6_init : List Cond := .code yX6_init cX6_init 3 none :: ([.methodLink RX6 3 objectInit, .instanceMethod objectInit, .code objectInit ⟨#[0xb1]⟩ 1 none, .arrayClass .boolean, .fieldLink RX6 9 "TemplateForge$Looker" "waiting" "[Z", .fieldLink RX6 15 "TemplateForge$Looker" "book" "LTemplateForge$Book;", .fieldLink RX6 19 "TemplateForge$Looker" "draft" "LTemplateForge$Draft;"] ++ wsX60)
set_option maxHeartbeats 4000000 in
set_option maxRecDepth 100000 in
theorem zc_X6_init (l : Launch) (D : va_G) (cI cZ cP cF : Nat) (h0 p1 p2 : Nat) (sz : Nat) : Met l yX6_init zw_zc_X6_init ({ frames := 1, cells := 1, slots := 60, locals := 12 }) (va_Pc [.ref h0, .ref p1, .ref p2] (fun U => U.heap.size = sz ∧ va_P D vwCl [(h0, .inr (6, [.null, .null, .null, .int 0]))] U.heap ∧ zE D cI cZ cP cF U ∧ va_D (fun _ => True) [(h0, .inr (6, [.null, .null, .null, .int 0]))])) (va_Qv (fun (_ : Unit) => True) (fun (_ : Unit) t => ∃ (q1 : Nat), va_P D vwCl [(h0, .inr (6, [.ref p1, .ref p2, .ref q1, .int 0]))] t.heap ∧ va_D (va_A [(h0, .inr (6, [.null, .null, .null, .int 0]))] sz) [(h0, .inr (6, [.ref p1, .ref p2, .ref q1, .int 0]))]) (va_A [(h0, .inr (6, [.null, .null, .null, .int 0]))] sz)) 1 60 (va_A [(h0, .inr (6, [.null, .null, .null, .int 0]))] sz) := by
  refine Met.ofW (cc := cX6_init) (maxL := 3) (ret := none) (by decide) rfl ?_
  intro p e s m args below meth c s₁ B hml hv
  obtain ⟨rfl, hsz, hP, hE, hD0⟩ := hv
  have hx := B.exec
  have hb := B.bytes
  have hr := B.returns
  have hts := atoms_spec (ws := zw_zc_X6_init) B.pre
  have hown : s.vm.findClass RX6 = some m.cls := findClass_of_methodNamed B.named
  have hlocks := B.notSynchronized
  have hK := hE.k
  have hin : meth.name = "<init>" := (name_of_methodNamed B.named B.method).1
  subst hsz
  have hD := hD0.self (sz := s.heap.size)
  generalize hAe : va_A [(h0, .inr (6, [.null, .null, .null, .int 0]))] s.heap.size = A at hD ⊢
  have hA : ∀ q : Nat, s.heap.size ≤ q → A q := fun q h => by rw [← hAe]; exact Or.inr h
  have hS : va_S A s.heap s.heap [] := va_S.rf
  have hP : va_P D vwCl [(h0, .inr (6, [.null, .null, .null, .int 0]))] s.heap := hP
  have hl := lv_entry ([.ref h0, .ref p1, .ref p2]) (n := 3) (Nat.le_of_ble_eq_true rfl)
  rw [lg_entry_eq]
  generalize (lg_sl ([.ref h0, .ref p1, .ref p2]) ++ List.replicate (3 - (lg_sl ([.ref h0, .ref p1, .ref p2])).length) Slot.unset).toArray = ls at hl ⊢
  have hl : lv_has ls 3 [(0, .ref h0), (1, .ref p1), (2, .ref p2)] := hl
  refine lv_aload_n hx hb dX6_init_0 rfl (lv_at hl 0 rfl) ?_
  refine W.objInit hx hb hown (hts (.methodLink RX6 3 objectInit) (List.mem_of_getElem? (i := 1) rfl)) (hts (.instanceMethod objectInit) (List.mem_of_getElem? (i := 2) rfl)) (hts (.code objectInit ⟨#[0xb1]⟩ 1 none) (List.mem_of_getElem? (i := 3) rfl)) rfl (by rw [hml]; exact hl.1) rfl dX6_init_1 (Nat.le_of_ble_eq_true rfl) (Nat.le_of_ble_eq_true rfl) ?_
  refine W.eq (g2 := F0 m 4 ls []) rfl ?_
  refine lv_aload_n hx hb dX6_init_4 rfl (lv_at hl 0 rfl) ?_
  refine lv_bipush (v := 60) hx hb dX6_init_5 (by decide) ?_
  refine z_newZ hx hb (hts (.arrayClass .boolean) (List.mem_of_getElem? (i := 4) rfl)) hK 1 rfl hP hD hS hA (n := 60) (N' := 60) (by decide) (by decide) (Nat.le_of_ble_eq_true rfl) (Nat.le_of_ble_eq_true rfl) (Nat.le_of_ble_eq_true rfl) dX6_init_7 (fun q1 H hP hD hS => ?_)
  have hP : va_P D vwCl [(h0, .inr (6, [.null, .null, .null, .int 0])), (q1, .inl (cZ, 60, .inl (fun _ => 0)))] H := hP
  have hD : va_D A [(h0, .inr (6, [.null, .null, .null, .int 0])), (q1, .inl (cZ, 60, .inl (fun _ => 0)))] := hD
  refine va_putF (D := D) (ci := 6) (v := .ref q1) (ty := .array .boolean) (C := RX6) (T := TX6) (N := 4) hx hb hts (fun _ h => List.mem_cons_of_mem _ (List.mem_append_right _ h)) tyX6 tyX6_ok nmX6 hown hK hP hD hS 0 rfl rfl 2 (by decide) (hts (.fieldLink RX6 9 "TemplateForge$Looker" "waiting" "[Z") (List.mem_of_getElem? (i := 5) rfl)) (fun _ h9 => h9) rfl hin rfl (by decide +kernel) rfl rfl (Nat.le_of_ble_eq_true rfl) dX6_init_9 (fun H locs hP hD hS => ?_)
  have hP : va_P D vwCl [(h0, .inr (6, [.null, .null, .ref q1, .int 0])), (q1, .inl (cZ, 60, .inl (fun _ => 0)))] H := hP
  have hD : va_D A [(h0, .inr (6, [.null, .null, .ref q1, .int 0])), (q1, .inl (cZ, 60, .inl (fun _ => 0)))] := hD
  refine lv_aload_n hx hb dX6_init_12 rfl (lv_at hl 0 rfl) ?_
  refine lv_aload_n hx hb dX6_init_13 rfl (lv_at hl 1 rfl) ?_
  refine va_putF (D := D) (ci := 6) (v := .ref p1) (ty := .object "TemplateForge$Book") (C := RX6) (T := TX6) (N := 4) hx hb hts (fun _ h => List.mem_cons_of_mem _ (List.mem_append_right _ h)) tyX6 tyX6_ok nmX6 hown hK hP hD hS 0 rfl rfl 0 (by decide) (hts (.fieldLink RX6 15 "TemplateForge$Looker" "book" "LTemplateForge$Book;") (List.mem_of_getElem? (i := 6) rfl)) (fun _ h9 => h9) rfl hin rfl (by decide +kernel) rfl rfl (Nat.le_of_ble_eq_true rfl) dX6_init_14 (fun H locs hP hD hS => ?_)
  have hP : va_P D vwCl [(h0, .inr (6, [.ref p1, .null, .ref q1, .int 0])), (q1, .inl (cZ, 60, .inl (fun _ => 0)))] H := hP
  have hD : va_D A [(h0, .inr (6, [.ref p1, .null, .ref q1, .int 0])), (q1, .inl (cZ, 60, .inl (fun _ => 0)))] := hD
  refine lv_aload_n hx hb dX6_init_17 rfl (lv_at hl 0 rfl) ?_
  refine lv_aload_n hx hb dX6_init_18 rfl (lv_at hl 2 rfl) ?_
  refine va_putF (D := D) (ci := 6) (v := .ref p2) (ty := .object "TemplateForge$Draft") (C := RX6) (T := TX6) (N := 4) hx hb hts (fun _ h => List.mem_cons_of_mem _ (List.mem_append_right _ h)) tyX6 tyX6_ok nmX6 hown hK hP hD hS 0 rfl rfl 1 (by decide) (hts (.fieldLink RX6 19 "TemplateForge$Looker" "draft" "LTemplateForge$Draft;") (List.mem_of_getElem? (i := 7) rfl)) (fun _ h9 => h9) rfl hin rfl (by decide +kernel) rfl rfl (Nat.le_of_ble_eq_true rfl) dX6_init_19 (fun H locs hP hD hS => ?_)
  have hP : va_P D vwCl [(h0, .inr (6, [.ref p1, .ref p2, .ref q1, .int 0])), (q1, .inl (cZ, 60, .inl (fun _ => 0)))] H := hP
  have hD : va_D A [(h0, .inr (6, [.ref p1, .ref p2, .ref q1, .int 0])), (q1, .inl (cZ, 60, .inl (fun _ => 0)))] := hD
  have hP9 := hP.sub (ws' := [(h0, .inr (6, [.ref p1, .ref p2, .ref q1, .int 0]))]) [0] rfl
  have hD9 := hD.sub (ws' := [(h0, .inr (6, [.ref p1, .ref p2, .ref q1, .int 0]))]) [0] (by decide) rfl
  refine W.widen (k := 1) (n := 60) (Nat.le_of_ble_eq_true rfl) (Nat.le_of_ble_eq_true rfl) ?_
  exact W.vret hx hb hr (fun t ht hW => ⟨⟨(), rfl, trivial, q1, by rw [ht]; exact hP9, hD9⟩, hS.F ht⟩) hS.2.2 dX6_init_22

def zw_zc_X9_init : List Cond := .code yX9_init cX9_init 2 none :: ([.methodLink RX9 3 objectInit, .instanceMethod objectInit, .code objectInit ⟨#[0xb1]⟩ 1 none, .arrayClass .boolean, .fieldLink RX9 9 "TemplateForge$Smith" "known" "[Z", .arrayClass .int, .fieldLink RX9 15 "TemplateForge$Smith" "worth" "[I", .fieldLink RX9 19 "TemplateForge$Smith" "target" "[Z", .fieldLink RX9 22 "TemplateForge$Smith" "assumed" "[Z", .fieldLink RX9 25 "TemplateForge$Smith" "draft" "LTemplateForge$Draft;"] ++ wsX90)
set_option maxHeartbeats 4000000 in
set_option maxRecDepth 100000 in
theorem zc_X9_init (l : Launch) (D : va_G) (cI cZ cP cF : Nat) (h0 p1 : Nat) (sz : Nat) : Met l yX9_init zw_zc_X9_init ({ frames := 1, cells := 4, slots := 101, locals := 12 }) (va_Pc [.ref h0, .ref p1] (fun U => U.heap.size = sz ∧ va_P D vwCl [(h0, .inr (9, [.null, .null, .null, .null, .null]))] U.heap ∧ zE D cI cZ cP cF U ∧ va_D (fun _ => True) [(h0, .inr (9, [.null, .null, .null, .null, .null]))])) (va_Qv (fun (_ : Unit) => True) (fun (_ : Unit) t => va_P D vwCl [] t.heap ∧ va_D (va_A [(h0, .inr (9, [.null, .null, .null, .null, .null]))] sz) []) (va_A [(h0, .inr (9, [.null, .null, .null, .null, .null]))] sz)) 4 101 (va_A [(h0, .inr (9, [.null, .null, .null, .null, .null]))] sz) := by
  refine Met.ofW (cc := cX9_init) (maxL := 2) (ret := none) (by decide) rfl ?_
  intro p e s m args below meth c s₁ B hml hv
  obtain ⟨rfl, hsz, hP, hE, hD0⟩ := hv
  have hx := B.exec
  have hb := B.bytes
  have hr := B.returns
  have hts := atoms_spec (ws := zw_zc_X9_init) B.pre
  have hown : s.vm.findClass RX9 = some m.cls := findClass_of_methodNamed B.named
  have hlocks := B.notSynchronized
  have hK := hE.k
  have hin : meth.name = "<init>" := (name_of_methodNamed B.named B.method).1
  subst hsz
  have hD := hD0.self (sz := s.heap.size)
  generalize hAe : va_A [(h0, .inr (9, [.null, .null, .null, .null, .null]))] s.heap.size = A at hD ⊢
  have hA : ∀ q : Nat, s.heap.size ≤ q → A q := fun q h => by rw [← hAe]; exact Or.inr h
  have hS : va_S A s.heap s.heap [] := va_S.rf
  have hP : va_P D vwCl [(h0, .inr (9, [.null, .null, .null, .null, .null]))] s.heap := hP
  have hl := lv_entry ([.ref h0, .ref p1]) (n := 2) (Nat.le_of_ble_eq_true rfl)
  rw [lg_entry_eq]
  generalize (lg_sl ([.ref h0, .ref p1]) ++ List.replicate (2 - (lg_sl ([.ref h0, .ref p1])).length) Slot.unset).toArray = ls at hl ⊢
  have hl : lv_has ls 2 [(0, .ref h0), (1, .ref p1)] := hl
  refine lv_aload_n hx hb dX9_init_0 rfl (lv_at hl 0 rfl) ?_
  refine W.objInit hx hb hown (hts (.methodLink RX9 3 objectInit) (List.mem_of_getElem? (i := 1) rfl)) (hts (.instanceMethod objectInit) (List.mem_of_getElem? (i := 2) rfl)) (hts (.code objectInit ⟨#[0xb1]⟩ 1 none) (List.mem_of_getElem? (i := 3) rfl)) rfl (by rw [hml]; exact hl.1) rfl dX9_init_1 (Nat.le_of_ble_eq_true rfl) (Nat.le_of_ble_eq_true rfl) ?_
  refine W.eq (g2 := F0 m 4 ls []) rfl ?_
  refine lv_aload_n hx hb dX9_init_4 rfl (lv_at hl 0 rfl) ?_
  refine lv_bipush (v := 15) hx hb dX9_init_5 (by decide) ?_
  refine z_newZ hx hb (hts (.arrayClass .boolean) (List.mem_of_getElem? (i := 4) rfl)) hK 1 rfl hP hD hS hA (n := 15) (N' := 15) (by decide) (by decide) (Nat.le_of_ble_eq_true rfl) (Nat.le_of_ble_eq_true rfl) (Nat.le_of_ble_eq_true rfl) dX9_init_7 (fun q1 H hP hD hS => ?_)
  have hP : va_P D vwCl [(h0, .inr (9, [.null, .null, .null, .null, .null])), (q1, .inl (cZ, 15, .inl (fun _ => 0)))] H := hP
  have hD : va_D A [(h0, .inr (9, [.null, .null, .null, .null, .null])), (q1, .inl (cZ, 15, .inl (fun _ => 0)))] := hD
  refine va_putF (D := D) (ci := 9) (v := .ref q1) (ty := .array .boolean) (C := RX9) (T := TX9) (N := 5) hx hb hts (fun _ h => List.mem_cons_of_mem _ (List.mem_append_right _ h)) tyX9 tyX9_ok nmX9 hown hK hP hD hS 0 rfl rfl 1 (by decide) (hts (.fieldLink RX9 9 "TemplateForge$Smith" "known" "[Z") (List.mem_of_getElem? (i := 5) rfl)) (fun _ h9 => h9) rfl hin rfl (by decide +kernel) rfl rfl (Nat.le_of_ble_eq_true rfl) dX9_init_9 (fun H locs hP hD hS => ?_)
  have hP : va_P D vwCl [(h0, .inr (9, [.null, .ref q1, .null, .null, .null])), (q1, .inl (cZ, 15, .inl (fun _ => 0)))] H := hP
  have hD : va_D A [(h0, .inr (9, [.null, .ref q1, .null, .null, .null])), (q1, .inl (cZ, 15, .inl (fun _ => 0)))] := hD
  refine lv_aload_n hx hb dX9_init_12 rfl (lv_at hl 0 rfl) ?_
  refine lv_bipush (v := 15) hx hb dX9_init_13 (by decide) ?_
  refine z_newI hx hb (hts (.arrayClass .int) (List.mem_of_getElem? (i := 6) rfl)) hK 0 rfl hP hD hS hA (n := 15) (N' := 15) (by decide) (by decide) (Nat.le_of_ble_eq_true rfl) (Nat.le_of_ble_eq_true rfl) (Nat.le_of_ble_eq_true rfl) dX9_init_15 (fun q2 H hP hD hS => ?_)
  have hP : va_P D vwCl [(h0, .inr (9, [.null, .ref q1, .null, .null, .null])), (q1, .inl (cZ, 15, .inl (fun _ => 0))), (q2, .inl (cI, 15, .inl (fun _ => 0)))] H := hP
  have hD : va_D A [(h0, .inr (9, [.null, .ref q1, .null, .null, .null])), (q1, .inl (cZ, 15, .inl (fun _ => 0))), (q2, .inl (cI, 15, .inl (fun _ => 0)))] := hD
  refine va_putF (D := D) (ci := 9) (v := .ref q2) (ty := .array .int) (C := RX9) (T := TX9) (N := 5) hx hb hts (fun _ h => List.mem_cons_of_mem _ (List.mem_append_right _ h)) tyX9 tyX9_ok nmX9 hown hK hP hD hS 0 rfl rfl 2 (by decide) (hts (.fieldLink RX9 15 "TemplateForge$Smith" "worth" "[I") (List.mem_of_getElem? (i := 7) rfl)) (fun _ h9 => h9) rfl hin rfl (by decide +kernel) rfl rfl (Nat.le_of_ble_eq_true rfl) dX9_init_17 (fun H locs hP hD hS => ?_)
  have hP : va_P D vwCl [(h0, .inr (9, [.null, .ref q1, .ref q2, .null, .null])), (q1, .inl (cZ, 15, .inl (fun _ => 0))), (q2, .inl (cI, 15, .inl (fun _ => 0)))] H := hP
  have hD : va_D A [(h0, .inr (9, [.null, .ref q1, .ref q2, .null, .null])), (q1, .inl (cZ, 15, .inl (fun _ => 0))), (q2, .inl (cI, 15, .inl (fun _ => 0)))] := hD
  refine lv_aload_n hx hb dX9_init_20 rfl (lv_at hl 0 rfl) ?_
  refine lv_bipush (v := 60) hx hb dX9_init_21 (by decide) ?_
  refine z_newZ hx hb (hts (.arrayClass .boolean) (List.mem_of_getElem? (i := 4) rfl)) hK 1 rfl hP hD hS hA (n := 60) (N' := 60) (by decide) (by decide) (Nat.le_of_ble_eq_true rfl) (Nat.le_of_ble_eq_true rfl) (Nat.le_of_ble_eq_true rfl) dX9_init_23 (fun q3 H hP hD hS => ?_)
  have hP : va_P D vwCl [(h0, .inr (9, [.null, .ref q1, .ref q2, .null, .null])), (q1, .inl (cZ, 15, .inl (fun _ => 0))), (q2, .inl (cI, 15, .inl (fun _ => 0))), (q3, .inl (cZ, 60, .inl (fun _ => 0)))] H := hP
  have hD : va_D A [(h0, .inr (9, [.null, .ref q1, .ref q2, .null, .null])), (q1, .inl (cZ, 15, .inl (fun _ => 0))), (q2, .inl (cI, 15, .inl (fun _ => 0))), (q3, .inl (cZ, 60, .inl (fun _ => 0)))] := hD
  refine va_putF (D := D) (ci := 9) (v := .ref q3) (ty := .array .boolean) (C := RX9) (T := TX9) (N := 5) hx hb hts (fun _ h => List.mem_cons_of_mem _ (List.mem_append_right _ h)) tyX9 tyX9_ok nmX9 hown hK hP hD hS 0 rfl rfl 3 (by decide) (hts (.fieldLink RX9 19 "TemplateForge$Smith" "target" "[Z") (List.mem_of_getElem? (i := 8) rfl)) (fun _ h9 => h9) rfl hin rfl (by decide +kernel) rfl rfl (Nat.le_of_ble_eq_true rfl) dX9_init_25 (fun H locs hP hD hS => ?_)
  have hP : va_P D vwCl [(h0, .inr (9, [.null, .ref q1, .ref q2, .ref q3, .null])), (q1, .inl (cZ, 15, .inl (fun _ => 0))), (q2, .inl (cI, 15, .inl (fun _ => 0))), (q3, .inl (cZ, 60, .inl (fun _ => 0)))] H := hP
  have hD : va_D A [(h0, .inr (9, [.null, .ref q1, .ref q2, .ref q3, .null])), (q1, .inl (cZ, 15, .inl (fun _ => 0))), (q2, .inl (cI, 15, .inl (fun _ => 0))), (q3, .inl (cZ, 60, .inl (fun _ => 0)))] := hD
  refine lv_aload_n hx hb dX9_init_28 rfl (lv_at hl 0 rfl) ?_
  refine lv_bipush (v := 11) hx hb dX9_init_29 (by decide) ?_
  refine z_newZ hx hb (hts (.arrayClass .boolean) (List.mem_of_getElem? (i := 4) rfl)) hK 1 rfl hP hD hS hA (n := 11) (N' := 11) (by decide) (by decide) (Nat.le_of_ble_eq_true rfl) (Nat.le_of_ble_eq_true rfl) (Nat.le_of_ble_eq_true rfl) dX9_init_31 (fun q4 H hP hD hS => ?_)
  have hP : va_P D vwCl [(h0, .inr (9, [.null, .ref q1, .ref q2, .ref q3, .null])), (q1, .inl (cZ, 15, .inl (fun _ => 0))), (q2, .inl (cI, 15, .inl (fun _ => 0))), (q3, .inl (cZ, 60, .inl (fun _ => 0))), (q4, .inl (cZ, 11, .inl (fun _ => 0)))] H := hP
  have hD : va_D A [(h0, .inr (9, [.null, .ref q1, .ref q2, .ref q3, .null])), (q1, .inl (cZ, 15, .inl (fun _ => 0))), (q2, .inl (cI, 15, .inl (fun _ => 0))), (q3, .inl (cZ, 60, .inl (fun _ => 0))), (q4, .inl (cZ, 11, .inl (fun _ => 0)))] := hD
  refine va_putF (D := D) (ci := 9) (v := .ref q4) (ty := .array .boolean) (C := RX9) (T := TX9) (N := 5) hx hb hts (fun _ h => List.mem_cons_of_mem _ (List.mem_append_right _ h)) tyX9 tyX9_ok nmX9 hown hK hP hD hS 0 rfl rfl 4 (by decide) (hts (.fieldLink RX9 22 "TemplateForge$Smith" "assumed" "[Z") (List.mem_of_getElem? (i := 9) rfl)) (fun _ h9 => h9) rfl hin rfl (by decide +kernel) rfl rfl (Nat.le_of_ble_eq_true rfl) dX9_init_33 (fun H locs hP hD hS => ?_)
  have hP : va_P D vwCl [(h0, .inr (9, [.null, .ref q1, .ref q2, .ref q3, .ref q4])), (q1, .inl (cZ, 15, .inl (fun _ => 0))), (q2, .inl (cI, 15, .inl (fun _ => 0))), (q3, .inl (cZ, 60, .inl (fun _ => 0))), (q4, .inl (cZ, 11, .inl (fun _ => 0)))] H := hP
  have hD : va_D A [(h0, .inr (9, [.null, .ref q1, .ref q2, .ref q3, .ref q4])), (q1, .inl (cZ, 15, .inl (fun _ => 0))), (q2, .inl (cI, 15, .inl (fun _ => 0))), (q3, .inl (cZ, 60, .inl (fun _ => 0))), (q4, .inl (cZ, 11, .inl (fun _ => 0)))] := hD
  refine lv_aload_n hx hb dX9_init_36 rfl (lv_at hl 0 rfl) ?_
  refine lv_aload_n hx hb dX9_init_37 rfl (lv_at hl 1 rfl) ?_
  refine va_putF (D := D) (ci := 9) (v := .ref p1) (ty := .object "TemplateForge$Draft") (C := RX9) (T := TX9) (N := 5) hx hb hts (fun _ h => List.mem_cons_of_mem _ (List.mem_append_right _ h)) tyX9 tyX9_ok nmX9 hown hK hP hD hS 0 rfl rfl 0 (by decide) (hts (.fieldLink RX9 25 "TemplateForge$Smith" "draft" "LTemplateForge$Draft;") (List.mem_of_getElem? (i := 10) rfl)) (fun _ h9 => h9) rfl hin rfl (by decide +kernel) rfl rfl (Nat.le_of_ble_eq_true rfl) dX9_init_38 (fun H locs hP hD hS => ?_)
  have hP : va_P D vwCl [(h0, .inr (9, [.ref p1, .ref q1, .ref q2, .ref q3, .ref q4])), (q1, .inl (cZ, 15, .inl (fun _ => 0))), (q2, .inl (cI, 15, .inl (fun _ => 0))), (q3, .inl (cZ, 60, .inl (fun _ => 0))), (q4, .inl (cZ, 11, .inl (fun _ => 0)))] H := hP
  have hD : va_D A [(h0, .inr (9, [.ref p1, .ref q1, .ref q2, .ref q3, .ref q4])), (q1, .inl (cZ, 15, .inl (fun _ => 0))), (q2, .inl (cI, 15, .inl (fun _ => 0))), (q3, .inl (cZ, 60, .inl (fun _ => 0))), (q4, .inl (cZ, 11, .inl (fun _ => 0)))] := hD
  have hP9 := hP.sub (ws' := []) [] rfl
  have hD9 := hD.sub (ws' := []) [] (by decide) rfl
  refine W.widen (k := 4) (n := 101) (Nat.le_of_ble_eq_true rfl) (Nat.le_of_ble_eq_true rfl) ?_
  exact W.vret hx hb hr (fun t ht hW => ⟨⟨(), rfl, trivial, by rw [ht]; exact hP9, hD9⟩, hS.F ht⟩) hS.2.2 dX9_init_41

def zw_zc_X10_init : List Cond := .code yX10_init cX10_init 1 none :: ([.methodLink RX10 3 objectInit, .instanceMethod objectInit, .code objectInit ⟨#[0xb1]⟩ 1 none, .arrayClass .int, .fieldLink RX10 9 "TemplateForge$Tally" "trap" "[I"] ++ wsX100)
set_option maxHeartbeats 4000000 in
set_option maxRecDepth 100000 in
theorem zc_X10_init (l : Launch) (D : va_G) (cI cZ cP cF : Nat) (h0 : Nat) (sz : Nat) : Met l yX10_init zw_zc_X10_init ({ frames := 1, cells := 1, slots := 4, locals := 12 }) (va_Pc [.ref h0] (fun U => U.heap.size = sz ∧ va_P D vwCl [(h0, .inr (10, [.int 0, .int 0, .int 0, .int 0, .int 0, .int 0, .null]))] U.heap ∧ zE D cI cZ cP cF U ∧ va_D (fun _ => True) [(h0, .inr (10, [.int 0, .int 0, .int 0, .int 0, .int 0, .int 0, .null]))])) (va_Qv (fun (_ : Unit) => True) (fun (_ : Unit) t => ∃ (q1 : Nat), va_P D vwCl [(h0, .inr (10, [.int 0, .int 0, .int 0, .int 0, .int 0, .int 0, .ref q1])), (q1, .inl (cI, 4, .inl (fun _ => 0)))] t.heap ∧ va_D (va_A [(h0, .inr (10, [.int 0, .int 0, .int 0, .int 0, .int 0, .int 0, .null]))] sz) [(h0, .inr (10, [.int 0, .int 0, .int 0, .int 0, .int 0, .int 0, .ref q1])), (q1, .inl (cI, 4, .inl (fun _ => 0)))]) (va_A [(h0, .inr (10, [.int 0, .int 0, .int 0, .int 0, .int 0, .int 0, .null]))] sz)) 1 4 (va_A [(h0, .inr (10, [.int 0, .int 0, .int 0, .int 0, .int 0, .int 0, .null]))] sz) := by
  refine Met.ofW (cc := cX10_init) (maxL := 1) (ret := none) (by decide) rfl ?_
  intro p e s m args below meth c s₁ B hml hv
  obtain ⟨rfl, hsz, hP, hE, hD0⟩ := hv
  have hx := B.exec
  have hb := B.bytes
  have hr := B.returns
  have hts := atoms_spec (ws := zw_zc_X10_init) B.pre
  have hown : s.vm.findClass RX10 = some m.cls := findClass_of_methodNamed B.named
  have hlocks := B.notSynchronized
  have hK := hE.k
  have hin : meth.name = "<init>" := (name_of_methodNamed B.named B.method).1
  subst hsz
  have hD := hD0.self (sz := s.heap.size)
  generalize hAe : va_A [(h0, .inr (10, [.int 0, .int 0, .int 0, .int 0, .int 0, .int 0, .null]))] s.heap.size = A at hD ⊢
  have hA : ∀ q : Nat, s.heap.size ≤ q → A q := fun q h => by rw [← hAe]; exact Or.inr h
  have hS : va_S A s.heap s.heap [] := va_S.rf
  have hP : va_P D vwCl [(h0, .inr (10, [.int 0, .int 0, .int 0, .int 0, .int 0, .int 0, .null]))] s.heap := hP
  have hl := lv_entry ([.ref h0]) (n := 1) (Nat.le_of_ble_eq_true rfl)
  rw [lg_entry_eq]
  generalize (lg_sl ([.ref h0]) ++ List.replicate (1 - (lg_sl ([.ref h0])).length) Slot.unset).toArray = ls at hl ⊢
  have hl : lv_has ls 1 [(0, .ref h0)] := hl
  refine lv_aload_n hx hb dX10_init_0 rfl (lv_at hl 0 rfl) ?_
  refine W.objInit hx hb hown (hts (.methodLink RX10 3 objectInit) (List.mem_of_getElem? (i := 1) rfl)) (hts (.instanceMethod objectInit) (List.mem_of_getElem? (i := 2) rfl)) (hts (.code objectInit ⟨#[0xb1]⟩ 1 none) (List.mem_of_getElem? (i := 3) rfl)) rfl (by rw [hml]; exact hl.1) rfl dX10_init_1 (Nat.le_of_ble_eq_true rfl) (Nat.le_of_ble_eq_true rfl) ?_
  refine W.eq (g2 := F0 m 4 ls []) rfl ?_
  refine lv_aload_n hx hb dX10_init_4 rfl (lv_at hl 0 rfl) ?_
  refine lv_iconst (v := 4) hx hb dX10_init_5 (by decide) ?_
  refine z_newI hx hb (hts (.arrayClass .int) (List.mem_of_getElem? (i := 4) rfl)) hK 0 rfl hP hD hS hA (n := 4) (N' := 4) (by decide) (by decide) (Nat.le_of_ble_eq_true rfl) (Nat.le_of_ble_eq_true rfl) (Nat.le_of_ble_eq_true rfl) dX10_init_6 (fun q1 H hP hD hS => ?_)
  have hP : va_P D vwCl [(h0, .inr (10, [.int 0, .int 0, .int 0, .int 0, .int 0, .int 0, .null])), (q1, .inl (cI, 4, .inl (fun _ => 0)))] H := hP
  have hD : va_D A [(h0, .inr (10, [.int 0, .int 0, .int 0, .int 0, .int 0, .int 0, .null])), (q1, .inl (cI, 4, .inl (fun _ => 0)))] := hD
  refine va_putF (D := D) (ci := 10) (v := .ref q1) (ty := .array .int) (C := RX10) (T := TX10) (N := 7) hx hb hts (fun _ h => List.mem_cons_of_mem _ (List.mem_append_right _ h)) tyX10 tyX10_ok nmX10 hown hK hP hD hS 0 rfl rfl 6 (by decide) (hts (.fieldLink RX10 9 "TemplateForge$Tally" "trap" "[I") (List.mem_of_getElem? (i := 5) rfl)) (fun _ h9 => h9) rfl hin rfl (by decide +kernel) rfl rfl (Nat.le_of_ble_eq_true rfl) dX10_init_8 (fun H locs hP hD hS => ?_)
  have hP : va_P D vwCl [(h0, .inr (10, [.int 0, .int 0, .int 0, .int 0, .int 0, .int 0, .ref q1])), (q1, .inl (cI, 4, .inl (fun _ => 0)))] H := hP
  have hD : va_D A [(h0, .inr (10, [.int 0, .int 0, .int 0, .int 0, .int 0, .int 0, .ref q1])), (q1, .inl (cI, 4, .inl (fun _ => 0)))] := hD
  have hP9 := hP.sub (ws' := [(h0, .inr (10, [.int 0, .int 0, .int 0, .int 0, .int 0, .int 0, .ref q1])), (q1, .inl (cI, 4, .inl (fun _ => 0)))]) [0, 1] rfl
  have hD9 := hD.sub (ws' := [(h0, .inr (10, [.int 0, .int 0, .int 0, .int 0, .int 0, .int 0, .ref q1])), (q1, .inl (cI, 4, .inl (fun _ => 0)))]) [0, 1] (by decide) rfl
  refine W.widen (k := 1) (n := 4) (Nat.le_of_ble_eq_true rfl) (Nat.le_of_ble_eq_true rfl) ?_
  exact W.vret hx hb hr (fun t ht hW => ⟨⟨(), rfl, trivial, q1, by rw [ht]; exact hP9, hD9⟩, hS.F ht⟩) hS.2.2 dX10_init_11

def zw_zc_X8_init : List Cond := .code yX8_init cX8_init 4 none :: ([.methodLink RX8 3 objectInit, .instanceMethod objectInit, .code objectInit ⟨#[0xb1]⟩ 1 none, .classLink RX8 9 RX5, .instantiable RX5 9, .initialized RX5, .code yX5_init cX5_init 1 none, .methodLink RX5 3 objectInit, .arrayClass .int, .fieldLink RX5 9 "TemplateForge$Heat" "first" "[I", .arrayClass .boolean, .fieldLink RX5 15 "TemplateForge$Heat" "same" "[Z", .fieldLink RX5 19 "TemplateForge$Heat" "varying" "[Z", .instanceMethod yX5_init, .fieldLink RX8 12 "TemplateForge$Program" "heat" "LTemplateForge$Heat;", .fieldLink RX8 18 "TemplateForge$Program" "ops" "[I", .fieldLink RX8 22 "TemplateForge$Program" "xs" "[I", .fieldLink RX8 25 "TemplateForge$Program" "depths" "[I", .fieldLink RX8 28 "TemplateForge$Program" "deepest" "I", .fieldLink RX8 32 "TemplateForge$Program" "number" "I", .fieldLink RX8 35 "TemplateForge$Program" "args" "I", .fieldLink RX8 38 "TemplateForge$Program" "locals" "I"] ++ wsX50 ++ wsX80)
set_option maxRecDepth 100000 in
theorem zg_zc_X8_init_zc_X5_init : GoodIn zw_zc_X8_init zw_zc_X5_init := goodIn_r _ [7, 8, 2, 3, 9, 10, 11, 12, 13, 23, 24, 25, 26, 27, 28, 29, 30, 31] (by decide +kernel) (by decide +kernel)
set_option maxHeartbeats 4000000 in
set_option maxRecDepth 100000 in
theorem zc_X8_init (l : Launch) (D : va_G) (cI cZ cP cF : Nat) (h0 : Nat) (n0 a0 l0 : Int32) (sz : Nat) : Met l yX8_init zw_zc_X8_init ({ frames := 2, cells := 7, slots := 222, locals := 32 }) (va_Pc [.ref h0, .int n0, .int a0, .int l0] (fun U => U.heap.size = sz ∧ va_P D vwCl [(h0, .inr (8, [.int 0, .int 0, .int 0, .null, .null, .null, .null, .int 0, .int 0, .null]))] U.heap ∧ zE D cI cZ cP cF U ∧ va_D (fun _ => True) [(h0, .inr (8, [.int 0, .int 0, .int 0, .null, .null, .null, .null, .int 0, .int 0, .null]))])) (va_Qv (fun (_ : Unit) => True) (fun (_ : Unit) t => ∃ (q1 : Nat), ∃ (q2 : Nat), ∃ (q3 : Nat), ∃ (q4 : Nat), va_P D vwCl [(h0, .inr (8, [.int n0, .int a0, .int l0, .ref q1, .ref q2, .ref q3, .ref q4, .int 0, .int (-1), .null]))] t.heap ∧ va_D (va_A [(h0, .inr (8, [.int 0, .int 0, .int 0, .null, .null, .null, .null, .int 0, .int 0, .null]))] sz) [(h0, .inr (8, [.int n0, .int a0, .int l0, .ref q1, .ref q2, .ref q3, .ref q4, .int 0, .int (-1), .null]))]) (va_A [(h0, .inr (8, [.int 0, .int 0, .int 0, .null, .null, .null, .null, .int 0, .int 0, .null]))] sz)) 7 222 (va_A [(h0, .inr (8, [.int 0, .int 0, .int 0, .null, .null, .null, .null, .int 0, .int 0, .null]))] sz) := by
  refine Met.ofW (cc := cX8_init) (maxL := 4) (ret := none) (by decide) rfl ?_
  intro p e s m args below meth c s₁ B hml hv
  obtain ⟨rfl, hsz, hP, hE, hD0⟩ := hv
  have hx := B.exec
  have hb := B.bytes
  have hr := B.returns
  have hts := atoms_spec (ws := zw_zc_X8_init) B.pre
  have hown : s.vm.findClass RX8 = some m.cls := findClass_of_methodNamed B.named
  have hlocks := B.notSynchronized
  have hK := hE.k
  have hin : meth.name = "<init>" := (name_of_methodNamed B.named B.method).1
  subst hsz
  have hD := hD0.self (sz := s.heap.size)
  generalize hAe : va_A [(h0, .inr (8, [.int 0, .int 0, .int 0, .null, .null, .null, .null, .int 0, .int 0, .null]))] s.heap.size = A at hD ⊢
  have hA : ∀ q : Nat, s.heap.size ≤ q → A q := fun q h => by rw [← hAe]; exact Or.inr h
  have hS : va_S A s.heap s.heap [] := va_S.rf
  have hP : va_P D vwCl [(h0, .inr (8, [.int 0, .int 0, .int 0, .null, .null, .null, .null, .int 0, .int 0, .null]))] s.heap := hP
  have hl := lv_entry ([.ref h0, .int n0, .int a0, .int l0]) (n := 4) (Nat.le_of_ble_eq_true rfl)
  rw [lg_entry_eq]
  generalize (lg_sl ([.ref h0, .int n0, .int a0, .int l0]) ++ List.replicate (4 - (lg_sl ([.ref h0, .int n0, .int a0, .int l0])).length) Slot.unset).toArray = ls at hl ⊢
  have hl : lv_has ls 4 [(0, .ref h0), (1, .int n0), (2, .int a0), (3, .int l0)] := hl
  refine lv_aload_n hx hb dX8_init_0 rfl (lv_at hl 0 rfl) ?_
  refine W.objInit hx hb hown (hts (.methodLink RX8 3 objectInit) (List.mem_of_getElem? (i := 1) rfl)) (hts (.instanceMethod objectInit) (List.mem_of_getElem? (i := 2) rfl)) (hts (.code objectInit ⟨#[0xb1]⟩ 1 none) (List.mem_of_getElem? (i := 3) rfl)) rfl (by rw [hml]; exact hl.1) rfl dX8_init_1 (Nat.le_of_ble_eq_true rfl) (Nat.le_of_ble_eq_true rfl) ?_
  refine W.eq (g2 := F0 m 4 ls []) rfl ?_
  refine lv_aload_n hx hb dX8_init_4 rfl (lv_at hl 0 rfl) ?_
  refine va_new (ci := 5) (fs := [.int 0, .null, .int 0, .int 0, .int 0, .int 0, .null, .null, .null]) (C := RX5) (T := TX5) (N := 9) hx hb hts (fun _ h => List.mem_cons_of_mem _ (List.mem_append_left _ (List.mem_append_right _ h))) tyX5 tyX5_ok hown (hts (.classLink RX8 9 RX5) (List.mem_of_getElem? (i := 4) rfl)) (hts (.instantiable RX5 9) (List.mem_of_getElem? (i := 5) rfl)) (hts (.initialized RX5) (List.mem_of_getElem? (i := 6) rfl)) hK hP hD hS hA rfl (fun j hj => by rcases (show j = 0 ∨ j = 1 ∨ j = 2 ∨ j = 3 ∨ j = 4 ∨ j = 5 ∨ j = 6 ∨ j = 7 ∨ j = 8 by omega) with rfl | rfl | rfl | rfl | rfl | rfl | rfl | rfl | rfl <;> rfl) (Nat.le_of_ble_eq_true rfl) (Nat.le_of_ble_eq_true rfl) dX8_init_5 (fun q1 H hP hD hS => ?_)
  have hP : va_P D vwCl [(h0, .inr (8, [.int 0, .int 0, .int 0, .null, .null, .null, .null, .int 0, .int 0, .null])), (q1, .inr (5, [.int 0, .null, .int 0, .int 0, .int 0, .int 0, .null, .null, .null]))] H := hP
  have hD : va_D A [(h0, .inr (8, [.int 0, .int 0, .int 0, .null, .null, .null, .null, .int 0, .int 0, .null])), (q1, .inr (5, [.int 0, .null, .int 0, .int 0, .int 0, .int 0, .null, .null, .null]))] := hD
  refine lv_dup hx hb dX8_init_8 rfl ?_
  have hPc := hP.sub (ws' := [(q1, .inr (5, [.int 0, .null, .int 0, .int 0, .int 0, .int 0, .null, .null, .null]))]) [1] rfl
  have hDc := hD.sub (ws' := [(q1, .inr (5, [.int 0, .null, .int 0, .int 0, .int 0, .int 0, .null, .null, .null]))]) [1] (by decide) rfl
  have hFc := va_free (wc := [(q1, .inr (5, [.int 0, .null, .int 0, .int 0, .int 0, .int 0, .null, .null, .null]))]) hD hS hA [1] rfl
  refine va_callv (va_runIN (As := []) (rest := [.ref q1, .ref h0]) ⟨hx, hb, hml, hown, hts⟩ (zc_X5_init l D cI cZ cP cF q1 H.size) ⟨va_cnB 0 hts zg_zc_X8_init_zc_X5_init rfl rfl rfl hE.nX8_11 (hts (.initialized RX5) (List.mem_of_getElem? (i := 6) rfl)) (by decide +kernel) ⟨Nat.le_of_ble_eq_true rfl, Nat.le_of_ble_eq_true rfl⟩, rfl, (hts (.instanceMethod yX5_init) (List.mem_of_getElem? (i := 14) rfl))⟩ ⟨zBW, fun U hU hW => ⟨rfl, by rw [hU], by rw [hU]; exact hPc, hE.warm hW, hDc.weaken (fun _ _ _ _ => trivial)⟩⟩ rfl rfl hl.1 rfl (lv_room (Nat.le_of_ble_eq_true rfl)) dX8_init_9 ⟨Nat.le_of_ble_eq_true rfl, Nat.le_of_ble_eq_true rfl⟩) hS (fun q _ h => hFc q h) hFc (fun u t H1 locs ht hvm h_9_2 hB hz1 hk1 hS => ?_)
  obtain ⟨hP1, hD1⟩ := hB
  rw [ht] at hP1
  obtain ⟨hP, hD⟩ := va_join (wr := [(h0, .inr (8, [.int 0, .int 0, .int 0, .null, .null, .null, .null, .int 0, .int 0, .null]))]) (w1 := []) hP hD [1] [0] rfl rfl (by decide) (by decide) hk1 hFc hP1 hD1
  generalize H1 = H at hP hS ⊢
  have hP : va_P D vwCl [(h0, .inr (8, [.int 0, .int 0, .int 0, .null, .null, .null, .null, .int 0, .int 0, .null]))] H := hP
  have hD : va_D A [(h0, .inr (8, [.int 0, .int 0, .int 0, .null, .null, .null, .null, .int 0, .int 0, .null]))] := hD
  refine va_putF (D := D) (ci := 8) (v := .ref q1) (ty := .object "TemplateForge$Heat") (C := RX8) (T := TX8) (N := 10) hx hb hts (fun _ h => List.mem_cons_of_mem _ (List.mem_append_right _ h)) tyX8 tyX8_ok nmX8 hown hK hP hD hS 0 rfl rfl 3 (by decide) (hts (.fieldLink RX8 12 "TemplateForge$Program" "heat" "LTemplateForge$Heat;") (List.mem_of_getElem? (i := 15) rfl)) (fun _ h9 => h9) rfl hin rfl (by decide +kernel) rfl rfl (Nat.le_of_ble_eq_true rfl) dX8_init_12 (fun H locs hP hD hS => ?_)
  have hP : va_P D vwCl [(h0, .inr (8, [.int 0, .int 0, .int 0, .ref q1, .null, .null, .null, .int 0, .int 0, .null]))] H := hP
  have hD : va_D A [(h0, .inr (8, [.int 0, .int 0, .int 0, .ref q1, .null, .null, .null, .int 0, .int 0, .null]))] := hD
  refine lv_aload_n hx hb dX8_init_15 rfl (lv_at hl 0 rfl) ?_
  refine lv_bipush (v := 60) hx hb dX8_init_16 (by decide) ?_
  refine z_newI hx hb (hts (.arrayClass .int) (List.mem_of_getElem? (i := 9) rfl)) hK 0 rfl hP hD hS hA (n := 60) (N' := 60) (by decide) (by decide) (Nat.le_of_ble_eq_true rfl) (Nat.le_of_ble_eq_true rfl) (Nat.le_of_ble_eq_true rfl) dX8_init_18 (fun q3 H hP hD hS => ?_)
  have hP : va_P D vwCl [(h0, .inr (8, [.int 0, .int 0, .int 0, .ref q1, .null, .null, .null, .int 0, .int 0, .null])), (q3, .inl (cI, 60, .inl (fun _ => 0)))] H := hP
  have hD : va_D A [(h0, .inr (8, [.int 0, .int 0, .int 0, .ref q1, .null, .null, .null, .int 0, .int 0, .null])), (q3, .inl (cI, 60, .inl (fun _ => 0)))] := hD
  refine va_putF (D := D) (ci := 8) (v := .ref q3) (ty := .array .int) (C := RX8) (T := TX8) (N := 10) hx hb hts (fun _ h => List.mem_cons_of_mem _ (List.mem_append_right _ h)) tyX8 tyX8_ok nmX8 hown hK hP hD hS 0 rfl rfl 4 (by decide) (hts (.fieldLink RX8 18 "TemplateForge$Program" "ops" "[I") (List.mem_of_getElem? (i := 16) rfl)) (fun _ h9 => h9) rfl hin rfl (by decide +kernel) rfl rfl (Nat.le_of_ble_eq_true rfl) dX8_init_20 (fun H locs hP hD hS => ?_)
  have hP : va_P D vwCl [(h0, .inr (8, [.int 0, .int 0, .int 0, .ref q1, .ref q3, .null, .null, .int 0, .int 0, .null])), (q3, .inl (cI, 60, .inl (fun _ => 0)))] H := hP
  have hD : va_D A [(h0, .inr (8, [.int 0, .int 0, .int 0, .ref q1, .ref q3, .null, .null, .int 0, .int 0, .null])), (q3, .inl (cI, 60, .inl (fun _ => 0)))] := hD
  refine lv_aload_n hx hb dX8_init_23 rfl (lv_at hl 0 rfl) ?_
  refine lv_bipush (v := 60) hx hb dX8_init_24 (by decide) ?_
  refine z_newI hx hb (hts (.arrayClass .int) (List.mem_of_getElem? (i := 9) rfl)) hK 0 rfl hP hD hS hA (n := 60) (N' := 60) (by decide) (by decide) (Nat.le_of_ble_eq_true rfl) (Nat.le_of_ble_eq_true rfl) (Nat.le_of_ble_eq_true rfl) dX8_init_26 (fun q4 H hP hD hS => ?_)
  have hP : va_P D vwCl [(h0, .inr (8, [.int 0, .int 0, .int 0, .ref q1, .ref q3, .null, .null, .int 0, .int 0, .null])), (q3, .inl (cI, 60, .inl (fun _ => 0))), (q4, .inl (cI, 60, .inl (fun _ => 0)))] H := hP
  have hD : va_D A [(h0, .inr (8, [.int 0, .int 0, .int 0, .ref q1, .ref q3, .null, .null, .int 0, .int 0, .null])), (q3, .inl (cI, 60, .inl (fun _ => 0))), (q4, .inl (cI, 60, .inl (fun _ => 0)))] := hD
  refine va_putF (D := D) (ci := 8) (v := .ref q4) (ty := .array .int) (C := RX8) (T := TX8) (N := 10) hx hb hts (fun _ h => List.mem_cons_of_mem _ (List.mem_append_right _ h)) tyX8 tyX8_ok nmX8 hown hK hP hD hS 0 rfl rfl 5 (by decide) (hts (.fieldLink RX8 22 "TemplateForge$Program" "xs" "[I") (List.mem_of_getElem? (i := 17) rfl)) (fun _ h9 => h9) rfl hin rfl (by decide +kernel) rfl rfl (Nat.le_of_ble_eq_true rfl) dX8_init_28 (fun H locs hP hD hS => ?_)
  have hP : va_P D vwCl [(h0, .inr (8, [.int 0, .int 0, .int 0, .ref q1, .ref q3, .ref q4, .null, .int 0, .int 0, .null])), (q3, .inl (cI, 60, .inl (fun _ => 0))), (q4, .inl (cI, 60, .inl (fun _ => 0)))] H := hP
  have hD : va_D A [(h0, .inr (8, [.int 0, .int 0, .int 0, .ref q1, .ref q3, .ref q4, .null, .int 0, .int 0, .null])), (q3, .inl (cI, 60, .inl (fun _ => 0))), (q4, .inl (cI, 60, .inl (fun _ => 0)))] := hD
  refine lv_aload_n hx hb dX8_init_31 rfl (lv_at hl 0 rfl) ?_
  refine lv_bipush (v := 60) hx hb dX8_init_32 (by decide) ?_
  refine z_newI hx hb (hts (.arrayClass .int) (List.mem_of_getElem? (i := 9) rfl)) hK 0 rfl hP hD hS hA (n := 60) (N' := 60) (by decide) (by decide) (Nat.le_of_ble_eq_true rfl) (Nat.le_of_ble_eq_true rfl) (Nat.le_of_ble_eq_true rfl) dX8_init_34 (fun q5 H hP hD hS => ?_)
  have hP : va_P D vwCl [(h0, .inr (8, [.int 0, .int 0, .int 0, .ref q1, .ref q3, .ref q4, .null, .int 0, .int 0, .null])), (q3, .inl (cI, 60, .inl (fun _ => 0))), (q4, .inl (cI, 60, .inl (fun _ => 0))), (q5, .inl (cI, 60, .inl (fun _ => 0)))] H := hP
  have hD : va_D A [(h0, .inr (8, [.int 0, .int 0, .int 0, .ref q1, .ref q3, .ref q4, .null, .int 0, .int 0, .null])), (q3, .inl (cI, 60, .inl (fun _ => 0))), (q4, .inl (cI, 60, .inl (fun _ => 0))), (q5, .inl (cI, 60, .inl (fun _ => 0)))] := hD
  refine va_putF (D := D) (ci := 8) (v := .ref q5) (ty := .array .int) (C := RX8) (T := TX8) (N := 10) hx hb hts (fun _ h => List.mem_cons_of_mem _ (List.mem_append_right _ h)) tyX8 tyX8_ok nmX8 hown hK hP hD hS 0 rfl rfl 6 (by decide) (hts (.fieldLink RX8 25 "TemplateForge$Program" "depths" "[I") (List.mem_of_getElem? (i := 18) rfl)) (fun _ h9 => h9) rfl hin rfl (by decide +kernel) rfl rfl (Nat.le_of_ble_eq_true rfl) dX8_init_36 (fun H locs hP hD hS => ?_)
  have hP : va_P D vwCl [(h0, .inr (8, [.int 0, .int 0, .int 0, .ref q1, .ref q3, .ref q4, .ref q5, .int 0, .int 0, .null])), (q3, .inl (cI, 60, .inl (fun _ => 0))), (q4, .inl (cI, 60, .inl (fun _ => 0))), (q5, .inl (cI, 60, .inl (fun _ => 0)))] H := hP
  have hD : va_D A [(h0, .inr (8, [.int 0, .int 0, .int 0, .ref q1, .ref q3, .ref q4, .ref q5, .int 0, .int 0, .null])), (q3, .inl (cI, 60, .inl (fun _ => 0))), (q4, .inl (cI, 60, .inl (fun _ => 0))), (q5, .inl (cI, 60, .inl (fun _ => 0)))] := hD
  refine lv_aload_n hx hb dX8_init_39 rfl (lv_at hl 0 rfl) ?_
  refine lv_iconst (v := (-1)) hx hb dX8_init_40 (by decide) ?_
  refine va_put (D := D) (ci := 8) (v := .int (-1)) (ty := .int) (C := RX8) (T := TX8) (N := 10) hx hb hts (fun _ h => List.mem_cons_of_mem _ (List.mem_append_right _ h)) tyX8 tyX8_ok nmX8 hown hK hP hD hS 0 rfl rfl 8 (by decide) (hts (.fieldLink RX8 28 "TemplateForge$Program" "deepest" "I") (List.mem_of_getElem? (i := 19) rfl)) (fun _ h9 => h9) rfl (by decide +kernel) rfl rfl (Nat.le_of_ble_eq_true rfl) dX8_init_41 (fun H locs hP hD hS => ?_)
  have hP : va_P D vwCl [(h0, .inr (8, [.int 0, .int 0, .int 0, .ref q1, .ref q3, .ref q4, .ref q5, .int 0, .int (-1), .null])), (q3, .inl (cI, 60, .inl (fun _ => 0))), (q4, .inl (cI, 60, .inl (fun _ => 0))), (q5, .inl (cI, 60, .inl (fun _ => 0)))] H := hP
  have hD : va_D A [(h0, .inr (8, [.int 0, .int 0, .int 0, .ref q1, .ref q3, .ref q4, .ref q5, .int 0, .int (-1), .null])), (q3, .inl (cI, 60, .inl (fun _ => 0))), (q4, .inl (cI, 60, .inl (fun _ => 0))), (q5, .inl (cI, 60, .inl (fun _ => 0)))] := hD
  refine lv_aload_n hx hb dX8_init_44 rfl (lv_at hl 0 rfl) ?_
  refine lv_iload_n hx hb dX8_init_45 rfl (lv_at hl 1 rfl) ?_
  refine va_putF (D := D) (ci := 8) (v := .int n0) (ty := .int) (C := RX8) (T := TX8) (N := 10) hx hb hts (fun _ h => List.mem_cons_of_mem _ (List.mem_append_right _ h)) tyX8 tyX8_ok nmX8 hown hK hP hD hS 0 rfl rfl 0 (by decide) (hts (.fieldLink RX8 32 "TemplateForge$Program" "number" "I") (List.mem_of_getElem? (i := 20) rfl)) (fun _ h9 => h9) rfl hin rfl (by decide +kernel) rfl rfl (Nat.le_of_ble_eq_true rfl) dX8_init_46 (fun H locs hP hD hS => ?_)
  have hP : va_P D vwCl [(h0, .inr (8, [.int n0, .int 0, .int 0, .ref q1, .ref q3, .ref q4, .ref q5, .int 0, .int (-1), .null])), (q3, .inl (cI, 60, .inl (fun _ => 0))), (q4, .inl (cI, 60, .inl (fun _ => 0))), (q5, .inl (cI, 60, .inl (fun _ => 0)))] H := hP
  have hD : va_D A [(h0, .inr (8, [.int n0, .int 0, .int 0, .ref q1, .ref q3, .ref q4, .ref q5, .int 0, .int (-1), .null])), (q3, .inl (cI, 60, .inl (fun _ => 0))), (q4, .inl (cI, 60, .inl (fun _ => 0))), (q5, .inl (cI, 60, .inl (fun _ => 0)))] := hD
  refine lv_aload_n hx hb dX8_init_49 rfl (lv_at hl 0 rfl) ?_
  refine lv_iload_n hx hb dX8_init_50 rfl (lv_at hl 2 rfl) ?_
  refine va_putF (D := D) (ci := 8) (v := .int a0) (ty := .int) (C := RX8) (T := TX8) (N := 10) hx hb hts (fun _ h => List.mem_cons_of_mem _ (List.mem_append_right _ h)) tyX8 tyX8_ok nmX8 hown hK hP hD hS 0 rfl rfl 1 (by decide) (hts (.fieldLink RX8 35 "TemplateForge$Program" "args" "I") (List.mem_of_getElem? (i := 21) rfl)) (fun _ h9 => h9) rfl hin rfl (by decide +kernel) rfl rfl (Nat.le_of_ble_eq_true rfl) dX8_init_51 (fun H locs hP hD hS => ?_)
  have hP : va_P D vwCl [(h0, .inr (8, [.int n0, .int a0, .int 0, .ref q1, .ref q3, .ref q4, .ref q5, .int 0, .int (-1), .null])), (q3, .inl (cI, 60, .inl (fun _ => 0))), (q4, .inl (cI, 60, .inl (fun _ => 0))), (q5, .inl (cI, 60, .inl (fun _ => 0)))] H := hP
  have hD : va_D A [(h0, .inr (8, [.int n0, .int a0, .int 0, .ref q1, .ref q3, .ref q4, .ref q5, .int 0, .int (-1), .null])), (q3, .inl (cI, 60, .inl (fun _ => 0))), (q4, .inl (cI, 60, .inl (fun _ => 0))), (q5, .inl (cI, 60, .inl (fun _ => 0)))] := hD
  refine lv_aload_n hx hb dX8_init_54 rfl (lv_at hl 0 rfl) ?_
  refine lv_iload_n hx hb dX8_init_55 rfl (lv_at hl 3 rfl) ?_
  refine va_putF (D := D) (ci := 8) (v := .int l0) (ty := .int) (C := RX8) (T := TX8) (N := 10) hx hb hts (fun _ h => List.mem_cons_of_mem _ (List.mem_append_right _ h)) tyX8 tyX8_ok nmX8 hown hK hP hD hS 0 rfl rfl 2 (by decide) (hts (.fieldLink RX8 38 "TemplateForge$Program" "locals" "I") (List.mem_of_getElem? (i := 22) rfl)) (fun _ h9 => h9) rfl hin rfl (by decide +kernel) rfl rfl (Nat.le_of_ble_eq_true rfl) dX8_init_56 (fun H locs hP hD hS => ?_)
  have hP : va_P D vwCl [(h0, .inr (8, [.int n0, .int a0, .int l0, .ref q1, .ref q3, .ref q4, .ref q5, .int 0, .int (-1), .null])), (q3, .inl (cI, 60, .inl (fun _ => 0))), (q4, .inl (cI, 60, .inl (fun _ => 0))), (q5, .inl (cI, 60, .inl (fun _ => 0)))] H := hP
  have hD : va_D A [(h0, .inr (8, [.int n0, .int a0, .int l0, .ref q1, .ref q3, .ref q4, .ref q5, .int 0, .int (-1), .null])), (q3, .inl (cI, 60, .inl (fun _ => 0))), (q4, .inl (cI, 60, .inl (fun _ => 0))), (q5, .inl (cI, 60, .inl (fun _ => 0)))] := hD
  have hP9 := hP.sub (ws' := [(h0, .inr (8, [.int n0, .int a0, .int l0, .ref q1, .ref q3, .ref q4, .ref q5, .int 0, .int (-1), .null]))]) [0] rfl
  have hD9 := hD.sub (ws' := [(h0, .inr (8, [.int n0, .int a0, .int l0, .ref q1, .ref q3, .ref q4, .ref q5, .int 0, .int (-1), .null]))]) [0] (by decide) rfl
  refine W.widen (k := 7) (n := 222) (Nat.le_of_ble_eq_true rfl) (Nat.le_of_ble_eq_true rfl) ?_
  exact W.vret hx hb hr (fun t ht hW => ⟨⟨(), rfl, trivial, q1, q3, q4, q5, by rw [ht]; exact hP9, hD9⟩, hS.F ht⟩) hS.2.2 dX8_init_59

def zw_zc_X7_init : List Cond := .code yX7_init cX7_init 5 none :: ([.methodLink RX7 3 objectInit, .instanceMethod objectInit, .code objectInit ⟨#[0xb1]⟩ 1 none, .classLink RX7 9 RX10, .instantiable RX10 7, .initialized RX10, .code yX10_init cX10_init 1 none, .methodLink RX10 3 objectInit, .arrayClass .int, .fieldLink RX10 9 "TemplateForge$Tally" "trap" "[I", .instanceMethod yX10_init, .fieldLink RX7 12 "TemplateForge$Machine" "tally" "LTemplateForge$Tally;", .classLink RX7 18 RX4, .fieldLink RX7 20 "TemplateForge$Machine" "frames" "[LTemplateForge$Frame;", .fieldLink RX7 24 "TemplateForge$Machine" "handed" "[I", .fieldLink RX7 28 "TemplateForge$Machine" "book" "LTemplateForge$Book;", .fieldLink RX7 32 "TemplateForge$Machine" "data" "LTemplateForge$Data;", .classLink RX7 36 RX9, .instantiable RX9 5, .initialized RX9, .code yX9_init cX9_init 2 none, .methodLink RX9 3 objectInit, .arrayClass .boolean, .fieldLink RX9 9 "TemplateForge$Smith" "known" "[Z", .fieldLink RX9 15 "TemplateForge$Smith" "worth" "[I", .fieldLink RX9 19 "TemplateForge$Smith" "target" "[Z", .fieldLink RX9 22 "TemplateForge$Smith" "assumed" "[Z", .fieldLink RX9 25 "TemplateForge$Smith" "draft" "LTemplateForge$Draft;", .instanceMethod yX9_init, .methodLink RX7 38 yX9_init, .fieldLink RX7 41 "TemplateForge$Machine" "smith" "LTemplateForge$Smith;", .instantiable RX4 5, .initialized RX4, .code yX4_init cX4_init 1 none, .methodLink RX4 3 objectInit, .fieldLink RX4 9 "TemplateForge$Frame" "registers" "[I", .instanceMethod yX4_init] ++ wsX100 ++ wsX70 ++ wsX90 ++ wsX40)
set_option maxRecDepth 100000 in
theorem zg_zc_X7_init_zc_X10_init : GoodIn zw_zc_X7_init zw_zc_X10_init := goodIn_r _ [7, 8, 2, 3, 9, 10, 38, 39, 40, 41, 42, 43, 44] (by decide +kernel) (by decide +kernel)
set_option maxRecDepth 100000 in
theorem zg_zc_X7_init_zc_X9_init : GoodIn zw_zc_X7_init zw_zc_X9_init := goodIn_r _ [21, 22, 2, 3, 23, 24, 9, 25, 26, 27, 28, 55, 56, 57, 58, 59] (by decide +kernel) (by decide +kernel)
set_option maxRecDepth 100000 in
theorem zg_zc_X7_init_zc_X4_init : GoodIn zw_zc_X7_init zw_zc_X4_init := goodIn_r _ [34, 35, 2, 3, 9, 36, 60, 61, 62, 63, 64] (by decide +kernel) (by decide +kernel)
set_option maxHeartbeats 4000000 in
set_option maxRecDepth 100000 in
theorem zc_X7_init (l : Launch) (D : va_G) (cI cZ cP cF : Nat) (h0 p1 p2 p3 : Nat) (sz : Nat) : Met l yX7_init zw_zc_X7_init ({ frames := 2, cells := 41, slots := 456, locals := 33 }) (va_Pc [.ref h0, .ref p1, .ref p2, .ref p3] (fun U => U.heap.size = sz ∧ va_P D vwCl [(h0, .inr (7, [.null, .null, .null, .null, .null, .null, .int 0, .int 0, .int 0, .int 0]))] U.heap ∧ zE D cI cZ cP cF U ∧ va_D (fun _ => True) [(h0, .inr (7, [.null, .null, .null, .null, .null, .null, .int 0, .int 0, .int 0, .int 0]))])) (va_Qv (fun (_ : Unit) => True) (fun (_ : Unit) t => ∃ (q1 : Nat), ∃ (q2 : Nat), ∃ (q3 : Nat), ∃ (q4 : Nat), ∃ (q5 : Nat), va_P D vwCl [(h0, .inr (7, [.ref p1, .ref p2, .ref q1, .ref q2, .ref q3, .ref q4, .int 0, .int 0, .int 0, .int 0])), (q2, .inr (10, [.int 0, .int 0, .int 0, .int 0, .int 0, .int 0, .ref q5])), (q5, .inl (cI, 4, .inl (fun _ => 0)))] t.heap ∧ va_D (va_A [(h0, .inr (7, [.null, .null, .null, .null, .null, .null, .int 0, .int 0, .int 0, .int 0]))] sz) [(h0, .inr (7, [.ref p1, .ref p2, .ref q1, .ref q2, .ref q3, .ref q4, .int 0, .int 0, .int 0, .int 0])), (q2, .inr (10, [.int 0, .int 0, .int 0, .int 0, .int 0, .int 0, .ref q5])), (q5, .inl (cI, 4, .inl (fun _ => 0)))]) (va_A [(h0, .inr (7, [.null, .null, .null, .null, .null, .null, .int 0, .int 0, .int 0, .int 0]))] sz)) 41 456 (va_A [(h0, .inr (7, [.null, .null, .null, .null, .null, .null, .int 0, .int 0, .int 0, .int 0]))] sz) := by
  refine Met.ofW (cc := cX7_init) (maxL := 5) (ret := none) (by decide) rfl ?_
  intro p e s m args below meth c s₁ B hml hv
  obtain ⟨rfl, hsz, hP, hE, hD0⟩ := hv
  have hx := B.exec
  have hb := B.bytes
  have hr := B.returns
  have hts := atoms_spec (ws := zw_zc_X7_init) B.pre
  have hown : s.vm.findClass RX7 = some m.cls := findClass_of_methodNamed B.named
  have hlocks := B.notSynchronized
  have hK := hE.k
  have hin : meth.name = "<init>" := (name_of_methodNamed B.named B.method).1
  subst hsz
  have hD := hD0.self (sz := s.heap.size)
  generalize hAe : va_A [(h0, .inr (7, [.null, .null, .null, .null, .null, .null, .int 0, .int 0, .int 0, .int 0]))] s.heap.size = A at hD ⊢
  have hA : ∀ q : Nat, s.heap.size ≤ q → A q := fun q h => by rw [← hAe]; exact Or.inr h
  have hS : va_S A s.heap s.heap [] := va_S.rf
  have hP : va_P D vwCl [(h0, .inr (7, [.null, .null, .null, .null, .null, .null, .int 0, .int 0, .int 0, .int 0]))] s.heap := hP
  have hl := lv_entry ([.ref h0, .ref p1, .ref p2, .ref p3]) (n := 5) (Nat.le_of_ble_eq_true rfl)
  rw [lg_entry_eq]
  generalize (lg_sl ([.ref h0, .ref p1, .ref p2, .ref p3]) ++ List.replicate (5 - (lg_sl ([.ref h0, .ref p1, .ref p2, .ref p3])).length) Slot.unset).toArray = ls at hl ⊢
  have hl : lv_has ls 5 [(0, .ref h0), (1, .ref p1), (2, .ref p2), (3, .ref p3)] := hl
  refine lv_aload_n hx hb dX7_init_0 rfl (lv_at hl 0 rfl) ?_
  refine W.objInit hx hb hown (hts (.methodLink RX7 3 objectInit) (List.mem_of_getElem? (i := 1) rfl)) (hts (.instanceMethod objectInit) (List.mem_of_getElem? (i := 2) rfl)) (hts (.code objectInit ⟨#[0xb1]⟩ 1 none) (List.mem_of_getElem? (i := 3) rfl)) rfl (by rw [hml]; exact hl.1) rfl dX7_init_1 (Nat.le_of_ble_eq_true rfl) (Nat.le_of_ble_eq_true rfl) ?_
  refine W.eq (g2 := F0 m 4 ls []) rfl ?_
  refine lv_aload_n hx hb dX7_init_4 rfl (lv_at hl 0 rfl) ?_
  refine va_new (ci := 10) (fs := [.int 0, .int 0, .int 0, .int 0, .int 0, .int 0, .null]) (C := RX10) (T := TX10) (N := 7) hx hb hts (fun _ h => List.mem_cons_of_mem _ (List.mem_append_left _ (List.mem_append_left _ (List.mem_append_left _ (List.mem_append_right _ h))))) tyX10 tyX10_ok hown (hts (.classLink RX7 9 RX10) (List.mem_of_getElem? (i := 4) rfl)) (hts (.instantiable RX10 7) (List.mem_of_getElem? (i := 5) rfl)) (hts (.initialized RX10) (List.mem_of_getElem? (i := 6) rfl)) hK hP hD hS hA rfl (fun j hj => by rcases (show j = 0 ∨ j = 1 ∨ j = 2 ∨ j = 3 ∨ j = 4 ∨ j = 5 ∨ j = 6 by omega) with rfl | rfl | rfl | rfl | rfl | rfl | rfl <;> rfl) (Nat.le_of_ble_eq_true rfl) (Nat.le_of_ble_eq_true rfl) dX7_init_5 (fun q1 H hP hD hS => ?_)
  have hP : va_P D vwCl [(h0, .inr (7, [.null, .null, .null, .null, .null, .null, .int 0, .int 0, .int 0, .int 0])), (q1, .inr (10, [.int 0, .int 0, .int 0, .int 0, .int 0, .int 0, .null]))] H := hP
  have hD : va_D A [(h0, .inr (7, [.null, .null, .null, .null, .null, .null, .int 0, .int 0, .int 0, .int 0])), (q1, .inr (10, [.int 0, .int 0, .int 0, .int 0, .int 0, .int 0, .null]))] := hD
  refine lv_dup hx hb dX7_init_8 rfl ?_
  have hPc := hP.sub (ws' := [(q1, .inr (10, [.int 0, .int 0, .int 0, .int 0, .int 0, .int 0, .null]))]) [1] rfl
  have hDc := hD.sub (ws' := [(q1, .inr (10, [.int 0, .int 0, .int 0, .int 0, .int 0, .int 0, .null]))]) [1] (by decide) rfl
  have hFc := va_free (wc := [(q1, .inr (10, [.int 0, .int 0, .int 0, .int 0, .int 0, .int 0, .null]))]) hD hS hA [1] rfl
  refine va_callv (va_runIN (As := []) (rest := [.ref q1, .ref h0]) ⟨hx, hb, hml, hown, hts⟩ (zc_X10_init l D cI cZ cP cF q1 H.size) ⟨va_cnB 0 hts zg_zc_X7_init_zc_X10_init rfl rfl rfl hE.nX7_11 (hts (.initialized RX10) (List.mem_of_getElem? (i := 6) rfl)) (by decide +kernel) ⟨Nat.le_of_ble_eq_true rfl, Nat.le_of_ble_eq_true rfl⟩, rfl, (hts (.instanceMethod yX10_init) (List.mem_of_getElem? (i := 11) rfl))⟩ ⟨zBW, fun U hU hW => ⟨rfl, by rw [hU], by rw [hU]; exact hPc, hE.warm hW, hDc.weaken (fun _ _ _ _ => trivial)⟩⟩ rfl rfl hl.1 rfl (lv_room (Nat.le_of_ble_eq_true rfl)) dX7_init_9 ⟨Nat.le_of_ble_eq_true rfl, Nat.le_of_ble_eq_true rfl⟩) hS (fun q _ h => hFc q h) hFc (fun u t H1 locs ht hvm h_9_2 hB hz1 hk1 hS => ?_)
  obtain ⟨q3, hP1, hD1⟩ := hB
  rw [ht] at hP1
  obtain ⟨hP, hD⟩ := va_join (wr := [(h0, .inr (7, [.null, .null, .null, .null, .null, .null, .int 0, .int 0, .int 0, .int 0]))]) (w1 := [(q1, .inr (10, [.int 0, .int 0, .int 0, .int 0, .int 0, .int 0, .ref q3])), (q3, .inl (cI, 4, .inl (fun _ => 0)))]) hP hD [1] [0] rfl rfl (by decide) (by decide) hk1 hFc hP1 hD1
  generalize H1 = H at hP hS ⊢
  have hP : va_P D vwCl [(h0, .inr (7, [.null, .null, .null, .null, .null, .null, .int 0, .int 0, .int 0, .int 0])), (q1, .inr (10, [.int 0, .int 0, .int 0, .int 0, .int 0, .int 0, .ref q3])), (q3, .inl (cI, 4, .inl (fun _ => 0)))] H := hP
  have hD : va_D A [(h0, .inr (7, [.null, .null, .null, .null, .null, .null, .int 0, .int 0, .int 0, .int 0])), (q1, .inr (10, [.int 0, .int 0, .int 0, .int 0, .int 0, .int 0, .ref q3])), (q3, .inl (cI, 4, .inl (fun _ => 0)))] := hD
  refine va_putF (D := D) (ci := 7) (v := .ref q1) (ty := .object "TemplateForge$Tally") (C := RX7) (T := TX7) (N := 10) hx hb hts (fun _ h => List.mem_cons_of_mem _ (List.mem_append_left _ (List.mem_append_left _ (List.mem_append_right _ h)))) tyX7 tyX7_ok nmX7 hown hK hP hD hS 0 rfl rfl 3 (by decide) (hts (.fieldLink RX7 12 "TemplateForge$Machine" "tally" "LTemplateForge$Tally;") (List.mem_of_getElem? (i := 12) rfl)) (fun _ h9 => h9) rfl hin rfl (by decide +kernel) rfl rfl (Nat.le_of_ble_eq_true rfl) dX7_init_12 (fun H locs hP hD hS => ?_)
  have hP : va_P D vwCl [(h0, .inr (7, [.null, .null, .null, .ref q1, .null, .null, .int 0, .int 0, .int 0, .int 0])), (q1, .inr (10, [.int 0, .int 0, .int 0, .int 0, .int 0, .int 0, .ref q3])), (q3, .inl (cI, 4, .inl (fun _ => 0)))] H := hP
  have hD : va_D A [(h0, .inr (7, [.null, .null, .null, .ref q1, .null, .null, .int 0, .int 0, .int 0, .int 0])), (q1, .inr (10, [.int 0, .int 0, .int 0, .int 0, .int 0, .int 0, .ref q3])), (q3, .inl (cI, 4, .inl (fun _ => 0)))] := hD
  refine lv_aload_n hx hb dX7_init_15 rfl (lv_at hl 0 rfl) ?_
  refine lv_bipush (v := 16) hx hb dX7_init_16 (by decide) ?_
  refine z_newQ hx hb hown (hts (.classLink RX7 18 RX4) (List.mem_of_getElem? (i := 13) rfl)) hE.aoF hK 3 rfl hP hD hS hA (n := 16) (N' := 16) (by decide) (by decide) (Nat.le_of_ble_eq_true rfl) (Nat.le_of_ble_eq_true rfl) (Nat.le_of_ble_eq_true rfl) dX7_init_18 (fun q4 H hP hD hS => ?_)
  have hP : va_P D vwCl [(h0, .inr (7, [.null, .null, .null, .ref q1, .null, .null, .int 0, .int 0, .int 0, .int 0])), (q1, .inr (10, [.int 0, .int 0, .int 0, .int 0, .int 0, .int 0, .ref q3])), (q3, .inl (cI, 4, .inl (fun _ => 0))), (q4, .inl (cF, 16, .inr (.inr (.inr (.inr (fun _ => none))))))] H := hP
  have hD : va_D A [(h0, .inr (7, [.null, .null, .null, .ref q1, .null, .null, .int 0, .int 0, .int 0, .int 0])), (q1, .inr (10, [.int 0, .int 0, .int 0, .int 0, .int 0, .int 0, .ref q3])), (q3, .inl (cI, 4, .inl (fun _ => 0))), (q4, .inl (cF, 16, .inr (.inr (.inr (.inr (fun _ => none))))))] := hD
  refine va_putF (D := D) (ci := 7) (v := .ref q4) (ty := .array (.object "TemplateForge$Frame")) (C := RX7) (T := TX7) (N := 10) hx hb hts (fun _ h => List.mem_cons_of_mem _ (List.mem_append_left _ (List.mem_append_left _ (List.mem_append_right _ h)))) tyX7 tyX7_ok nmX7 hown hK hP hD hS 0 rfl rfl 4 (by decide) (hts (.fieldLink RX7 20 "TemplateForge$Machine" "frames" "[LTemplateForge$Frame;") (List.mem_of_getElem? (i := 14) rfl)) (fun _ h9 => h9) rfl hin rfl (by decide +kernel) rfl rfl (Nat.le_of_ble_eq_true rfl) dX7_init_21 (fun H locs hP hD hS => ?_)
  have hP : va_P D vwCl [(h0, .inr (7, [.null, .null, .null, .ref q1, .ref q4, .null, .int 0, .int 0, .int 0, .int 0])), (q1, .inr (10, [.int 0, .int 0, .int 0, .int 0, .int 0, .int 0, .ref q3])), (q3, .inl (cI, 4, .inl (fun _ => 0))), (q4, .inl (cF, 16, .inr (.inr (.inr (.inr (fun _ => none))))))] H := hP
  have hD : va_D A [(h0, .inr (7, [.null, .null, .null, .ref q1, .ref q4, .null, .int 0, .int 0, .int 0, .int 0])), (q1, .inr (10, [.int 0, .int 0, .int 0, .int 0, .int 0, .int 0, .ref q3])), (q3, .inl (cI, 4, .inl (fun _ => 0))), (q4, .inl (cF, 16, .inr (.inr (.inr (.inr (fun _ => none))))))] := hD
  refine lv_aload_n hx hb dX7_init_24 rfl (lv_at hl 0 rfl) ?_
  refine lv_iconst (v := 3) hx hb dX7_init_25 (by decide) ?_
  refine z_newI hx hb (hts (.arrayClass .int) (List.mem_of_getElem? (i := 9) rfl)) hK 0 rfl hP hD hS hA (n := 3) (N' := 3) (by decide) (by decide) (Nat.le_of_ble_eq_true rfl) (Nat.le_of_ble_eq_true rfl) (Nat.le_of_ble_eq_true rfl) dX7_init_26 (fun q5 H hP hD hS => ?_)
  have hP : va_P D vwCl [(h0, .inr (7, [.null, .null, .null, .ref q1, .ref q4, .null, .int 0, .int 0, .int 0, .int 0])), (q1, .inr (10, [.int 0, .int 0, .int 0, .int 0, .int 0, .int 0, .ref q3])), (q3, .inl (cI, 4, .inl (fun _ => 0))), (q4, .inl (cF, 16, .inr (.inr (.inr (.inr (fun _ => none)))))), (q5, .inl (cI, 3, .inl (fun _ => 0)))] H := hP
  have hD : va_D A [(h0, .inr (7, [.null, .null, .null, .ref q1, .ref q4, .null, .int 0, .int 0, .int 0, .int 0])), (q1, .inr (10, [.int 0, .int 0, .int 0, .int 0, .int 0, .int 0, .ref q3])), (q3, .inl (cI, 4, .inl (fun _ => 0))), (q4, .inl (cF, 16, .inr (.inr (.inr (.inr (fun _ => none)))))), (q5, .inl (cI, 3, .inl (fun _ => 0)))] := hD
  refine va_putF (D := D) (ci := 7) (v := .ref q5) (ty := .array .int) (C := RX7) (T := TX7) (N := 10) hx hb hts (fun _ h => List.mem_cons_of_mem _ (List.mem_append_left _ (List.mem_append_left _ (List.mem_append_right _ h)))) tyX7 tyX7_ok nmX7 hown hK hP hD hS 0 rfl rfl 5 (by decide) (hts (.fieldLink RX7 24 "TemplateForge$Machine" "handed" "[I") (List.mem_of_getElem? (i := 15) rfl)) (fun _ h9 => h9) rfl hin rfl (by decide +kernel) rfl rfl (Nat.le_of_ble_eq_true rfl) dX7_init_28 (fun H locs hP hD hS => ?_)
  have hP : va_P D vwCl [(h0, .inr (7, [.null, .null, .null, .ref q1, .ref q4, .ref q5, .int 0, .int 0, .int 0, .int 0])), (q1, .inr (10, [.int 0, .int 0, .int 0, .int 0, .int 0, .int 0, .ref q3])), (q3, .inl (cI, 4, .inl (fun _ => 0))), (q4, .inl (cF, 16, .inr (.inr (.inr (.inr (fun _ => none)))))), (q5, .inl (cI, 3, .inl (fun _ => 0)))] H := hP
  have hD : va_D A [(h0, .inr (7, [.null, .null, .null, .ref q1, .ref q4, .ref q5, .int 0, .int 0, .int 0, .int 0])), (q1, .inr (10, [.int 0, .int 0, .int 0, .int 0, .int 0, .int 0, .ref q3])), (q3, .inl (cI, 4, .inl (fun _ => 0))), (q4, .inl (cF, 16, .inr (.inr (.inr (.inr (fun _ => none)))))), (q5, .inl (cI, 3, .inl (fun _ => 0)))] := hD
  refine lv_aload_n hx hb dX7_init_31 rfl (lv_at hl 0 rfl) ?_
  refine lv_aload_n hx hb dX7_init_32 rfl (lv_at hl 1 rfl) ?_
  refine va_putF (D := D) (ci := 7) (v := .ref p1) (ty := .object "TemplateForge$Book") (C := RX7) (T := TX7) (N := 10) hx hb hts (fun _ h => List.mem_cons_of_mem _ (List.mem_append_left _ (List.mem_append_left _ (List.mem_append_right _ h)))) tyX7 tyX7_ok nmX7 hown hK hP hD hS 0 rfl rfl 0 (by decide) (hts (.fieldLink RX7 28 "TemplateForge$Machine" "book" "LTemplateForge$Book;") (List.mem_of_getElem? (i := 16) rfl)) (fun _ h9 => h9) rfl hin rfl (by decide +kernel) rfl rfl (Nat.le_of_ble_eq_true rfl) dX7_init_33 (fun H locs hP hD hS => ?_)
  have hP : va_P D vwCl [(h0, .inr (7, [.ref p1, .null, .null, .ref q1, .ref q4, .ref q5, .int 0, .int 0, .int 0, .int 0])), (q1, .inr (10, [.int 0, .int 0, .int 0, .int 0, .int 0, .int 0, .ref q3])), (q3, .inl (cI, 4, .inl (fun _ => 0))), (q4, .inl (cF, 16, .inr (.inr (.inr (.inr (fun _ => none)))))), (q5, .inl (cI, 3, .inl (fun _ => 0)))] H := hP
  have hD : va_D A [(h0, .inr (7, [.ref p1, .null, .null, .ref q1, .ref q4, .ref q5, .int 0, .int 0, .int 0, .int 0])), (q1, .inr (10, [.int 0, .int 0, .int 0, .int 0, .int 0, .int 0, .ref q3])), (q3, .inl (cI, 4, .inl (fun _ => 0))), (q4, .inl (cF, 16, .inr (.inr (.inr (.inr (fun _ => none)))))), (q5, .inl (cI, 3, .inl (fun _ => 0)))] := hD
  refine lv_aload_n hx hb dX7_init_36 rfl (lv_at hl 0 rfl) ?_
  refine lv_aload_n hx hb dX7_init_37 rfl (lv_at hl 2 rfl) ?_
  refine va_putF (D := D) (ci := 7) (v := .ref p2) (ty := .object "TemplateForge$Data") (C := RX7) (T := TX7) (N := 10) hx hb hts (fun _ h => List.mem_cons_of_mem _ (List.mem_append_left _ (List.mem_append_left _ (List.mem_append_right _ h)))) tyX7 tyX7_ok nmX7 hown hK hP hD hS 0 rfl rfl 1 (by decide) (hts (.fieldLink RX7 32 "TemplateForge$Machine" "data" "LTemplateForge$Data;") (List.mem_of_getElem? (i := 17) rfl)) (fun _ h9 => h9) rfl hin rfl (by decide +kernel) rfl rfl (Nat.le_of_ble_eq_true rfl) dX7_init_38 (fun H locs hP hD hS => ?_)
  have hP : va_P D vwCl [(h0, .inr (7, [.ref p1, .ref p2, .null, .ref q1, .ref q4, .ref q5, .int 0, .int 0, .int 0, .int 0])), (q1, .inr (10, [.int 0, .int 0, .int 0, .int 0, .int 0, .int 0, .ref q3])), (q3, .inl (cI, 4, .inl (fun _ => 0))), (q4, .inl (cF, 16, .inr (.inr (.inr (.inr (fun _ => none)))))), (q5, .inl (cI, 3, .inl (fun _ => 0)))] H := hP
  have hD : va_D A [(h0, .inr (7, [.ref p1, .ref p2, .null, .ref q1, .ref q4, .ref q5, .int 0, .int 0, .int 0, .int 0])), (q1, .inr (10, [.int 0, .int 0, .int 0, .int 0, .int 0, .int 0, .ref q3])), (q3, .inl (cI, 4, .inl (fun _ => 0))), (q4, .inl (cF, 16, .inr (.inr (.inr (.inr (fun _ => none)))))), (q5, .inl (cI, 3, .inl (fun _ => 0)))] := hD
  refine lv_aload_n hx hb dX7_init_41 rfl (lv_at hl 0 rfl) ?_
  refine va_new (ci := 9) (fs := [.null, .null, .null, .null, .null]) (C := RX9) (T := TX9) (N := 5) hx hb hts (fun _ h => List.mem_cons_of_mem _ (List.mem_append_left _ (List.mem_append_right _ h))) tyX9 tyX9_ok hown (hts (.classLink RX7 36 RX9) (List.mem_of_getElem? (i := 18) rfl)) (hts (.instantiable RX9 5) (List.mem_of_getElem? (i := 19) rfl)) (hts (.initialized RX9) (List.mem_of_getElem? (i := 20) rfl)) hK hP hD hS hA rfl (fun j hj => by rcases (show j = 0 ∨ j = 1 ∨ j = 2 ∨ j = 3 ∨ j = 4 by omega) with rfl | rfl | rfl | rfl | rfl <;> rfl) (Nat.le_of_ble_eq_true rfl) (Nat.le_of_ble_eq_true rfl) dX7_init_42 (fun q6 H hP hD hS => ?_)
  have hP : va_P D vwCl [(h0, .inr (7, [.ref p1, .ref p2, .null, .ref q1, .ref q4, .ref q5, .int 0, .int 0, .int 0, .int 0])), (q1, .inr (10, [.int 0, .int 0, .int 0, .int 0, .int 0, .int 0, .ref q3])), (q3, .inl (cI, 4, .inl (fun _ => 0))), (q4, .inl (cF, 16, .inr (.inr (.inr (.inr (fun _ => none)))))), (q5, .inl (cI, 3, .inl (fun _ => 0))), (q6, .inr (9, [.null, .null, .null, .null, .null]))] H := hP
  have hD : va_D A [(h0, .inr (7, [.ref p1, .ref p2, .null, .ref q1, .ref q4, .ref q5, .int 0, .int 0, .int 0, .int 0])), (q1, .inr (10, [.int 0, .int 0, .int 0, .int 0, .int 0, .int 0, .ref q3])), (q3, .inl (cI, 4, .inl (fun _ => 0))), (q4, .inl (cF, 16, .inr (.inr (.inr (.inr (fun _ => none)))))), (q5, .inl (cI, 3, .inl (fun _ => 0))), (q6, .inr (9, [.null, .null, .null, .null, .null]))] := hD
  refine lv_dup hx hb dX7_init_45 rfl ?_
  refine lv_aload_n hx hb dX7_init_46 rfl (lv_at hl 3 rfl) ?_
  have hPc := hP.sub (ws' := [(q6, .inr (9, [.null, .null, .null, .null, .null]))]) [5] rfl
  have hDc := hD.sub (ws' := [(q6, .inr (9, [.null, .null, .null, .null, .null]))]) [5] (by decide) rfl
  have hFc := va_free (wc := [(q6, .inr (9, [.null, .null, .null, .null, .null]))]) hD hS hA [5] rfl
  refine va_callv (va_runI (As := [.ref p3]) (rest := [.ref q6, .ref h0]) ⟨hx, hb, hml, hown, hts⟩ (zc_X9_init l D cI cZ cP cF q6 p3 H.size) (cwI 1 hts zg_zc_X7_init_zc_X9_init rfl rfl rfl (hts (.initialized RX9) (List.mem_of_getElem? (i := 20) rfl)) (hts (.methodLink RX7 38 yX9_init) (List.mem_of_getElem? (i := 30) rfl)) (hts (.instanceMethod yX9_init) (List.mem_of_getElem? (i := 29) rfl)) rfl (by decide +kernel) ⟨Nat.le_of_ble_eq_true rfl, Nat.le_of_ble_eq_true rfl⟩) ⟨zBW, fun U hU hW => ⟨rfl, by rw [hU], by rw [hU]; exact hPc, hE.warm hW, hDc.weaken (fun _ _ _ _ => trivial)⟩⟩ rfl rfl hl.1 rfl (lv_room (Nat.le_of_ble_eq_true rfl)) dX7_init_47 ⟨Nat.le_of_ble_eq_true rfl, Nat.le_of_ble_eq_true rfl⟩) hS (fun q _ h => hFc q h) hFc (fun u t H1 locs ht hvm h_47_7 hB hz1 hk1 hS => ?_)
  obtain ⟨hP1, hD1⟩ := hB
  rw [ht] at hP1
  obtain ⟨hP, hD⟩ := va_join (wr := [(h0, .inr (7, [.ref p1, .ref p2, .null, .ref q1, .ref q4, .ref q5, .int 0, .int 0, .int 0, .int 0])), (q1, .inr (10, [.int 0, .int 0, .int 0, .int 0, .int 0, .int 0, .ref q3])), (q3, .inl (cI, 4, .inl (fun _ => 0))), (q4, .inl (cF, 16, .inr (.inr (.inr (.inr (fun _ => none)))))), (q5, .inl (cI, 3, .inl (fun _ => 0)))]) (w1 := []) hP hD [5] [0, 1, 2, 3, 4] rfl rfl (by decide) (by decide) hk1 hFc hP1 hD1
  generalize H1 = H at hP hS ⊢
  have hP : va_P D vwCl [(h0, .inr (7, [.ref p1, .ref p2, .null, .ref q1, .ref q4, .ref q5, .int 0, .int 0, .int 0, .int 0])), (q1, .inr (10, [.int 0, .int 0, .int 0, .int 0, .int 0, .int 0, .ref q3])), (q3, .inl (cI, 4, .inl (fun _ => 0))), (q4, .inl (cF, 16, .inr (.inr (.inr (.inr (fun _ => none)))))), (q5, .inl (cI, 3, .inl (fun _ => 0)))] H := hP
  have hD : va_D A [(h0, .inr (7, [.ref p1, .ref p2, .null, .ref q1, .ref q4, .ref q5, .int 0, .int 0, .int 0, .int 0])), (q1, .inr (10, [.int 0, .int 0, .int 0, .int 0, .int 0, .int 0, .ref q3])), (q3, .inl (cI, 4, .inl (fun _ => 0))), (q4, .inl (cF, 16, .inr (.inr (.inr (.inr (fun _ => none)))))), (q5, .inl (cI, 3, .inl (fun _ => 0)))] := hD
  refine va_putF (D := D) (ci := 7) (v := .ref q6) (ty := .object "TemplateForge$Smith") (C := RX7) (T := TX7) (N := 10) hx hb hts (fun _ h => List.mem_cons_of_mem _ (List.mem_append_left _ (List.mem_append_left _ (List.mem_append_right _ h)))) tyX7 tyX7_ok nmX7 hown hK hP hD hS 0 rfl rfl 2 (by decide) (hts (.fieldLink RX7 41 "TemplateForge$Machine" "smith" "LTemplateForge$Smith;") (List.mem_of_getElem? (i := 31) rfl)) (fun _ h9 => h9) rfl hin rfl (by decide +kernel) rfl rfl (Nat.le_of_ble_eq_true rfl) dX7_init_50 (fun H locs hP hD hS => ?_)
  have hP : va_P D vwCl [(h0, .inr (7, [.ref p1, .ref p2, .ref q6, .ref q1, .ref q4, .ref q5, .int 0, .int 0, .int 0, .int 0])), (q1, .inr (10, [.int 0, .int 0, .int 0, .int 0, .int 0, .int 0, .ref q3])), (q3, .inl (cI, 4, .inl (fun _ => 0))), (q4, .inl (cF, 16, .inr (.inr (.inr (.inr (fun _ => none)))))), (q5, .inl (cI, 3, .inl (fun _ => 0)))] H := hP
  have hD : va_D A [(h0, .inr (7, [.ref p1, .ref p2, .ref q6, .ref q1, .ref q4, .ref q5, .int 0, .int 0, .int 0, .int 0])), (q1, .inr (10, [.int 0, .int 0, .int 0, .int 0, .int 0, .int 0, .ref q3])), (q3, .inl (cI, 4, .inl (fun _ => 0))), (q4, .inl (cF, 16, .inr (.inr (.inr (.inr (fun _ => none)))))), (q5, .inl (cI, 3, .inl (fun _ => 0)))] := hD
  refine lv_iconst (v := 0) hx hb dX7_init_53 (by decide) ?_
  refine lv_istore (lv' := [(4, .int 0), (0, .ref h0), (1, .ref p1), (2, .ref p2), (3, .ref p3)]) hx hb dX7_init_54 hl (by decide) rfl (fun ls hl => ?_)
  refine lv_iload hx hb dX7_init_56 (lv_at hl 0 rfl) ?_
  refine lv_bipush (v := 16) hx hb dX7_init_58 (by decide) ?_
  refine lv_icmp_ge (tgt := 83) hx hb dX7_init_60 (by decide) (fun c => absurd c (by decide)) (fun _ => ?_)
  refine lv_aload_n hx hb dX7_init_63 rfl (lv_at hl 1 rfl) ?_
  refine va_get (D := D) (ci := 7) (v := .ref q4) (C := RX7) (T := TX7) (N := 10) hx hb hts (fun _ h => List.mem_cons_of_mem _ (List.mem_append_left _ (List.mem_append_left _ (List.mem_append_right _ h)))) hown hK hP 0 rfl rfl 4 (by decide) (hts (.fieldLink RX7 20 "TemplateForge$Machine" "frames" "[LTemplateForge$Frame;") (List.mem_of_getElem? (i := 14) rfl)) (fun _ h9 => h9) rfl dX7_init_64 ?_
  refine lv_iload hx hb dX7_init_67 (lv_at hl 0 rfl) ?_
  refine va_new (ci := 4) (fs := [.null, .null, .int 0, .int 0, .null]) (C := RX4) (T := TX4) (N := 5) hx hb hts (fun _ h => List.mem_cons_of_mem _ (List.mem_append_right _ h)) tyX4 tyX4_ok hown (hts (.classLink RX7 18 RX4) (List.mem_of_getElem? (i := 13) rfl)) (hts (.instantiable RX4 5) (List.mem_of_getElem? (i := 32) rfl)) (hts (.initialized RX4) (List.mem_of_getElem? (i := 33) rfl)) hK hP hD hS hA rfl (fun j hj => by rcases (show j = 0 ∨ j = 1 ∨ j = 2 ∨ j = 3 ∨ j = 4 by omega) with rfl | rfl | rfl | rfl | rfl <;> rfl) (Nat.le_of_ble_eq_true rfl) (Nat.le_of_ble_eq_true rfl) dX7_init_69 (fun q8 H hP hD hS => ?_)
  have hP : va_P D vwCl [(h0, .inr (7, [.ref p1, .ref p2, .ref q6, .ref q1, .ref q4, .ref q5, .int 0, .int 0, .int 0, .int 0])), (q1, .inr (10, [.int 0, .int 0, .int 0, .int 0, .int 0, .int 0, .ref q3])), (q3, .inl (cI, 4, .inl (fun _ => 0))), (q4, .inl (cF, 16, .inr (.inr (.inr (.inr (fun _ => none)))))), (q5, .inl (cI, 3, .inl (fun _ => 0))), (q8, .inr (4, [.null, .null, .int 0, .int 0, .null]))] H := hP
  have hD : va_D A [(h0, .inr (7, [.ref p1, .ref p2, .ref q6, .ref q1, .ref q4, .ref q5, .int 0, .int 0, .int 0, .int 0])), (q1, .inr (10, [.int 0, .int 0, .int 0, .int 0, .int 0, .int 0, .ref q3])), (q3, .inl (cI, 4, .inl (fun _ => 0))), (q4, .inl (cF, 16, .inr (.inr (.inr (.inr (fun _ => none)))))), (q5, .inl (cI, 3, .inl (fun _ => 0))), (q8, .inr (4, [.null, .null, .int 0, .int 0, .null]))] := hD
  refine lv_dup hx hb dX7_init_72 rfl ?_
  have hPc := hP.sub (ws' := [(q8, .inr (4, [.null, .null, .int 0, .int 0, .null]))]) [5] rfl
  have hDc := hD.sub (ws' := [(q8, .inr (4, [.null, .null, .int 0, .int 0, .null]))]) [5] (by decide) rfl
  have hFc := va_free (wc := [(q8, .inr (4, [.null, .null, .int 0, .int 0, .null]))]) hD hS hA [5] rfl
  refine va_callv (va_runIN (As := []) (rest := [.ref q8, .int 0, .ref q4]) ⟨hx, hb, hml, hown, hts⟩ (zc_X4_init l D cI cZ cP cF q8 H.size) ⟨va_cnB 0 hts zg_zc_X7_init_zc_X4_init rfl rfl rfl hE.nX7_45 (hts (.initialized RX4) (List.mem_of_getElem? (i := 33) rfl)) (by decide +kernel) ⟨Nat.le_of_ble_eq_true rfl, Nat.le_of_ble_eq_true rfl⟩, rfl, (hts (.instanceMethod yX4_init) (List.mem_of_getElem? (i := 37) rfl))⟩ ⟨zBW, fun U hU hW => ⟨rfl, by rw [hU], by rw [hU]; exact hPc, hE.warm hW, hDc.weaken (fun _ _ _ _ => trivial)⟩⟩ rfl rfl hl.1 rfl (lv_room (Nat.le_of_ble_eq_true rfl)) dX7_init_73 ⟨Nat.le_of_ble_eq_true rfl, Nat.le_of_ble_eq_true rfl⟩) hS (fun q _ h => hFc q h) hFc (fun u t H1 locs ht hvm h_73_9 hB hz1 hk1 hS => ?_)
  obtain ⟨q10, hP1, hD1⟩ := hB
  rw [ht] at hP1
  obtain ⟨hP, hD⟩ := va_join (wr := [(h0, .inr (7, [.ref p1, .ref p2, .ref q6, .ref q1, .ref q4, .ref q5, .int 0, .int 0, .int 0, .int 0])), (q1, .inr (10, [.int 0, .int 0, .int 0, .int 0, .int 0, .int 0, .ref q3])), (q3, .inl (cI, 4, .inl (fun _ => 0))), (q4, .inl (cF, 16, .inr (.inr (.inr (.inr (fun _ => none)))))), (q5, .inl (cI, 3, .inl (fun _ => 0)))]) (w1 := [(q8, .inr (4, [.null, .null, .int 0, .int 0, .ref q10]))]) hP hD [5] [0, 1, 2, 3, 4] rfl rfl (by decide) (by decide) hk1 hFc hP1 hD1
  generalize H1 = H at hP hS ⊢
  have hP : va_P D vwCl [(h0, .inr (7, [.ref p1, .ref p2, .ref q6, .ref q1, .ref q4, .ref q5, .int 0, .int 0, .int 0, .int 0])), (q1, .inr (10, [.int 0, .int 0, .int 0, .int 0, .int 0, .int 0, .ref q3])), (q3, .inl (cI, 4, .inl (fun _ => 0))), (q4, .inl (cF, 16, .inr (.inr (.inr (.inr (fun _ => none)))))), (q5, .inl (cI, 3, .inl (fun _ => 0))), (q8, .inr (4, [.null, .null, .int 0, .int 0, .ref q10]))] H := hP
  have hD : va_D A [(h0, .inr (7, [.ref p1, .ref p2, .ref q6, .ref q1, .ref q4, .ref q5, .int 0, .int 0, .int 0, .int 0])), (q1, .inr (10, [.int 0, .int 0, .int 0, .int 0, .int 0, .int 0, .ref q3])), (q3, .inl (cI, 4, .inl (fun _ => 0))), (q4, .inl (cF, 16, .inr (.inr (.inr (.inr (fun _ => none)))))), (q5, .inl (cI, 3, .inl (fun _ => 0))), (q8, .inr (4, [.null, .null, .int 0, .int 0, .ref q10]))] := hD
  have hin_76 : vp_in 0 16 := by unfold vp_in; decide
  refine va_astq hx hb hK hP hD hS 3 3 5 4 rfl rfl rfl rfl hin_76 dX7_init_76 (fun H locs hP hD hS => ?_)
  have hP : va_P D vwCl [(h0, .inr (7, [.ref p1, .ref p2, .ref q6, .ref q1, .ref q4, .ref q5, .int 0, .int 0, .int 0, .int 0])), (q1, .inr (10, [.int 0, .int 0, .int 0, .int 0, .int 0, .int 0, .ref q3])), (q3, .inl (cI, 4, .inl (fun _ => 0))), (q4, .inl (cF, 16, .inr (.inr (.inr (.inr (va_up (fun _ => none) (0 : Int32).toNatClampNeg (some q8))))))), (q5, .inl (cI, 3, .inl (fun _ => 0))), (q8, .inr (4, [.null, .null, .int 0, .int 0, .ref q10]))] H := hP
  have hD : va_D A [(h0, .inr (7, [.ref p1, .ref p2, .ref q6, .ref q1, .ref q4, .ref q5, .int 0, .int 0, .int 0, .int 0])), (q1, .inr (10, [.int 0, .int 0, .int 0, .int 0, .int 0, .int 0, .ref q3])), (q3, .inl (cI, 4, .inl (fun _ => 0))), (q4, .inl (cF, 16, .inr (.inr (.inr (.inr (va_up (fun _ => none) (0 : Int32).toNatClampNeg (some q8))))))), (q5, .inl (cI, 3, .inl (fun _ => 0))), (q8, .inr (4, [.null, .null, .int 0, .int 0, .ref q10]))] := hD
  have hP := hP.sub (ws' := [(h0, .inr (7, [.ref p1, .ref p2, .ref q6, .ref q1, .ref q4, .ref q5, .int 0, .int 0, .int 0, .int 0])), (q1, .inr (10, [.int 0, .int 0, .int 0, .int 0, .int 0, .int 0, .ref q3])), (q3, .inl (cI, 4, .inl (fun _ => 0))), (q4, .inl (cF, 16, .inr (.inr (.inr (.inr (va_up (fun _ => none) (0 : Int32).toNatClampNeg (some q8))))))), (q5, .inl (cI, 3, .inl (fun _ => 0)))]) [0, 1, 2, 3, 4] rfl
  have hD := hD.sub (ws' := [(h0, .inr (7, [.ref p1, .ref p2, .ref q6, .ref q1, .ref q4, .ref q5, .int 0, .int 0, .int 0, .int 0])), (q1, .inr (10, [.int 0, .int 0, .int 0, .int 0, .int 0, .int 0, .ref q3])), (q3, .inl (cI, 4, .inl (fun _ => 0))), (q4, .inl (cF, 16, .inr (.inr (.inr (.inr (va_up (fun _ => none) (0 : Int32).toNatClampNeg (some q8))))))), (q5, .inl (cI, 3, .inl (fun _ => 0)))]) [0, 1, 2, 3, 4] (by decide) rfl
  generalize (va_up (fun _ => none) (0 : Int32).toNatClampNeg (some q8)) = ff_11 at hP hD
  refine lv_iinc (v := 1) (lv' := [(4, .int 1), (0, .ref h0), (1, .ref p1), (2, .ref p2), (3, .ref p3)]) hx hb dX7_init_77 hl (k := 0) rfl (by decide) (by decide) rfl (fun ls hl => ?_)
  refine lv_goto (tgt := 56) hx hb dX7_init_80 (by decide) ?_
  refine lv_iload hx hb dX7_init_56 (lv_at hl 0 rfl) ?_
  refine lv_bipush (v := 16) hx hb dX7_init_58 (by decide) ?_
  refine lv_icmp_ge (tgt := 83) hx hb dX7_init_60 (by decide) (fun c => absurd c (by decide)) (fun _ => ?_)
  refine lv_aload_n hx hb dX7_init_63 rfl (lv_at hl 1 rfl) ?_
  refine va_get (D := D) (ci := 7) (v := .ref q4) (C := RX7) (T := TX7) (N := 10) hx hb hts (fun _ h => List.mem_cons_of_mem _ (List.mem_append_left _ (List.mem_append_left _ (List.mem_append_right _ h)))) hown hK hP 0 rfl rfl 4 (by decide) (hts (.fieldLink RX7 20 "TemplateForge$Machine" "frames" "[LTemplateForge$Frame;") (List.mem_of_getElem? (i := 14) rfl)) (fun _ h9 => h9) rfl dX7_init_64 ?_
  refine lv_iload hx hb dX7_init_67 (lv_at hl 0 rfl) ?_
  refine va_new (ci := 4) (fs := [.null, .null, .int 0, .int 0, .null]) (C := RX4) (T := TX4) (N := 5) hx hb hts (fun _ h => List.mem_cons_of_mem _ (List.mem_append_right _ h)) tyX4 tyX4_ok hown (hts (.classLink RX7 18 RX4) (List.mem_of_getElem? (i := 13) rfl)) (hts (.instantiable RX4 5) (List.mem_of_getElem? (i := 32) rfl)) (hts (.initialized RX4) (List.mem_of_getElem? (i := 33) rfl)) hK hP hD hS hA rfl (fun j hj => by rcases (show j = 0 ∨ j = 1 ∨ j = 2 ∨ j = 3 ∨ j = 4 by omega) with rfl | rfl | rfl | rfl | rfl <;> rfl) (Nat.le_of_ble_eq_true rfl) (Nat.le_of_ble_eq_true rfl) dX7_init_69 (fun q12 H hP hD hS => ?_)
  have hP : va_P D vwCl [(h0, .inr (7, [.ref p1, .ref p2, .ref q6, .ref q1, .ref q4, .ref q5, .int 0, .int 0, .int 0, .int 0])), (q1, .inr (10, [.int 0, .int 0, .int 0, .int 0, .int 0, .int 0, .ref q3])), (q3, .inl (cI, 4, .inl (fun _ => 0))), (q4, .inl (cF, 16, .inr (.inr (.inr (.inr ff_11))))), (q5, .inl (cI, 3, .inl (fun _ => 0))), (q12, .inr (4, [.null, .null, .int 0, .int 0, .null]))] H := hP
  have hD : va_D A [(h0, .inr (7, [.ref p1, .ref p2, .ref q6, .ref q1, .ref q4, .ref q5, .int 0, .int 0, .int 0, .int 0])), (q1, .inr (10, [.int 0, .int 0, .int 0, .int 0, .int 0, .int 0, .ref q3])), (q3, .inl (cI, 4, .inl (fun _ => 0))), (q4, .inl (cF, 16, .inr (.inr (.inr (.inr ff_11))))), (q5, .inl (cI, 3, .inl (fun _ => 0))), (q12, .inr (4, [.null, .null, .int 0, .int 0, .null]))] := hD
  refine lv_dup hx hb dX7_init_72 rfl ?_
  have hPc := hP.sub (ws' := [(q12, .inr (4, [.null, .null, .int 0, .int 0, .null]))]) [5] rfl
  have hDc := hD.sub (ws' := [(q12, .inr (4, [.null, .null, .int 0, .int 0, .null]))]) [5] (by decide) rfl
  have hFc := va_free (wc := [(q12, .inr (4, [.null, .null, .int 0, .int 0, .null]))]) hD hS hA [5] rfl
  refine va_callv (va_runIN (As := []) (rest := [.ref q12, .int 1, .ref q4]) ⟨hx, hb, hml, hown, hts⟩ (zc_X4_init l D cI cZ cP cF q12 H.size) ⟨va_cnB 0 hts zg_zc_X7_init_zc_X4_init rfl rfl rfl hE.nX7_45 (hts (.initialized RX4) (List.mem_of_getElem? (i := 33) rfl)) (by decide +kernel) ⟨Nat.le_of_ble_eq_true rfl, Nat.le_of_ble_eq_true rfl⟩, rfl, (hts (.instanceMethod yX4_init) (List.mem_of_getElem? (i := 37) rfl))⟩ ⟨zBW, fun U hU hW => ⟨rfl, by rw [hU], by rw [hU]; exact hPc, hE.warm hW, hDc.weaken (fun _ _ _ _ => trivial)⟩⟩ rfl rfl hl.1 rfl (lv_room (Nat.le_of_ble_eq_true rfl)) dX7_init_73 ⟨Nat.le_of_ble_eq_true rfl, Nat.le_of_ble_eq_true rfl⟩) hS (fun q _ h => hFc q h) hFc (fun u t H1 locs ht hvm h_73_13 hB hz1 hk1 hS => ?_)
  obtain ⟨q14, hP1, hD1⟩ := hB
  rw [ht] at hP1
  obtain ⟨hP, hD⟩ := va_join (wr := [(h0, .inr (7, [.ref p1, .ref p2, .ref q6, .ref q1, .ref q4, .ref q5, .int 0, .int 0, .int 0, .int 0])), (q1, .inr (10, [.int 0, .int 0, .int 0, .int 0, .int 0, .int 0, .ref q3])), (q3, .inl (cI, 4, .inl (fun _ => 0))), (q4, .inl (cF, 16, .inr (.inr (.inr (.inr ff_11))))), (q5, .inl (cI, 3, .inl (fun _ => 0)))]) (w1 := [(q12, .inr (4, [.null, .null, .int 0, .int 0, .ref q14]))]) hP hD [5] [0, 1, 2, 3, 4] rfl rfl (by decide) (by decide) hk1 hFc hP1 hD1
  generalize H1 = H at hP hS ⊢
  have hP : va_P D vwCl [(h0, .inr (7, [.ref p1, .ref p2, .ref q6, .ref q1, .ref q4, .ref q5, .int 0, .int 0, .int 0, .int 0])), (q1, .inr (10, [.int 0, .int 0, .int 0, .int 0, .int 0, .int 0, .ref q3])), (q3, .inl (cI, 4, .inl (fun _ => 0))), (q4, .inl (cF, 16, .inr (.inr (.inr (.inr ff_11))))), (q5, .inl (cI, 3, .inl (fun _ => 0))), (q12, .inr (4, [.null, .null, .int 0, .int 0, .ref q14]))] H := hP
  have hD : va_D A [(h0, .inr (7, [.ref p1, .ref p2, .ref q6, .ref q1, .ref q4, .ref q5, .int 0, .int 0, .int 0, .int 0])), (q1, .inr (10, [.int 0, .int 0, .int 0, .int 0, .int 0, .int 0, .ref q3])), (q3, .inl (cI, 4, .inl (fun _ => 0))), (q4, .inl (cF, 16, .inr (.inr (.inr (.inr ff_11))))), (q5, .inl (cI, 3, .inl (fun _ => 0))), (q12, .inr (4, [.null, .null, .int 0, .int 0, .ref q14]))] := hD
  have hin_76 : vp_in 1 16 := by unfold vp_in; decide
  refine va_astq hx hb hK hP hD hS 3 3 5 4 rfl rfl rfl rfl hin_76 dX7_init_76 (fun H locs hP hD hS => ?_)
  have hP : va_P D vwCl [(h0, .inr (7, [.ref p1, .ref p2, .ref q6, .ref q1, .ref q4, .ref q5, .int 0, .int 0, .int 0, .int 0])), (q1, .inr (10, [.int 0, .int 0, .int 0, .int 0, .int 0, .int 0, .ref q3])), (q3, .inl (cI, 4, .inl (fun _ => 0))), (q4, .inl (cF, 16, .inr (.inr (.inr (.inr (va_up ff_11 (1 : Int32).toNatClampNeg (some q12))))))), (q5, .inl (cI, 3, .inl (fun _ => 0))), (q12, .inr (4, [.null, .null, .int 0, .int 0, .ref q14]))] H := hP
  have hD : va_D A [(h0, .inr (7, [.ref p1, .ref p2, .ref q6, .ref q1, .ref q4, .ref q5, .int 0, .int 0, .int 0, .int 0])), (q1, .inr (10, [.int 0, .int 0, .int 0, .int 0, .int 0, .int 0, .ref q3])), (q3, .inl (cI, 4, .inl (fun _ => 0))), (q4, .inl (cF, 16, .inr (.inr (.inr (.inr (va_up ff_11 (1 : Int32).toNatClampNeg (some q12))))))), (q5, .inl (cI, 3, .inl (fun _ => 0))), (q12, .inr (4, [.null, .null, .int 0, .int 0, .ref q14]))] := hD
  have hP := hP.sub (ws' := [(h0, .inr (7, [.ref p1, .ref p2, .ref q6, .ref q1, .ref q4, .ref q5, .int 0, .int 0, .int 0, .int 0])), (q1, .inr (10, [.int 0, .int 0, .int 0, .int 0, .int 0, .int 0, .ref q3])), (q3, .inl (cI, 4, .inl (fun _ => 0))), (q4, .inl (cF, 16, .inr (.inr (.inr (.inr (va_up ff_11 (1 : Int32).toNatClampNeg (some q12))))))), (q5, .inl (cI, 3, .inl (fun _ => 0)))]) [0, 1, 2, 3, 4] rfl
  have hD := hD.sub (ws' := [(h0, .inr (7, [.ref p1, .ref p2, .ref q6, .ref q1, .ref q4, .ref q5, .int 0, .int 0, .int 0, .int 0])), (q1, .inr (10, [.int 0, .int 0, .int 0, .int 0, .int 0, .int 0, .ref q3])), (q3, .inl (cI, 4, .inl (fun _ => 0))), (q4, .inl (cF, 16, .inr (.inr (.inr (.inr (va_up ff_11 (1 : Int32).toNatClampNeg (some q12))))))), (q5, .inl (cI, 3, .inl (fun _ => 0)))]) [0, 1, 2, 3, 4] (by decide) rfl
  generalize (va_up ff_11 (1 : Int32).toNatClampNeg (some q12)) = ff_15 at hP hD
  refine lv_iinc (v := 2) (lv' := [(4, .int 2), (0, .ref h0), (1, .ref p1), (2, .ref p2), (3, .ref p3)]) hx hb dX7_init_77 hl (k := 0) rfl (by decide) (by decide) rfl (fun ls hl => ?_)
  refine lv_goto (tgt := 56) hx hb dX7_init_80 (by decide) ?_
  refine lv_iload hx hb dX7_init_56 (lv_at hl 0 rfl) ?_
  refine lv_bipush (v := 16) hx hb dX7_init_58 (by decide) ?_
  refine lv_icmp_ge (tgt := 83) hx hb dX7_init_60 (by decide) (fun c => absurd c (by decide)) (fun _ => ?_)
  refine lv_aload_n hx hb dX7_init_63 rfl (lv_at hl 1 rfl) ?_
  refine va_get (D := D) (ci := 7) (v := .ref q4) (C := RX7) (T := TX7) (N := 10) hx hb hts (fun _ h => List.mem_cons_of_mem _ (List.mem_append_left _ (List.mem_append_left _ (List.mem_append_right _ h)))) hown hK hP 0 rfl rfl 4 (by decide) (hts (.fieldLink RX7 20 "TemplateForge$Machine" "frames" "[LTemplateForge$Frame;") (List.mem_of_getElem? (i := 14) rfl)) (fun _ h9 => h9) rfl dX7_init_64 ?_
  refine lv_iload hx hb dX7_init_67 (lv_at hl 0 rfl) ?_
  refine va_new (ci := 4) (fs := [.null, .null, .int 0, .int 0, .null]) (C := RX4) (T := TX4) (N := 5) hx hb hts (fun _ h => List.mem_cons_of_mem _ (List.mem_append_right _ h)) tyX4 tyX4_ok hown (hts (.classLink RX7 18 RX4) (List.mem_of_getElem? (i := 13) rfl)) (hts (.instantiable RX4 5) (List.mem_of_getElem? (i := 32) rfl)) (hts (.initialized RX4) (List.mem_of_getElem? (i := 33) rfl)) hK hP hD hS hA rfl (fun j hj => by rcases (show j = 0 ∨ j = 1 ∨ j = 2 ∨ j = 3 ∨ j = 4 by omega) with rfl | rfl | rfl | rfl | rfl <;> rfl) (Nat.le_of_ble_eq_true rfl) (Nat.le_of_ble_eq_true rfl) dX7_init_69 (fun q16 H hP hD hS => ?_)
  have hP : va_P D vwCl [(h0, .inr (7, [.ref p1, .ref p2, .ref q6, .ref q1, .ref q4, .ref q5, .int 0, .int 0, .int 0, .int 0])), (q1, .inr (10, [.int 0, .int 0, .int 0, .int 0, .int 0, .int 0, .ref q3])), (q3, .inl (cI, 4, .inl (fun _ => 0))), (q4, .inl (cF, 16, .inr (.inr (.inr (.inr ff_15))))), (q5, .inl (cI, 3, .inl (fun _ => 0))), (q16, .inr (4, [.null, .null, .int 0, .int 0, .null]))] H := hP
  have hD : va_D A [(h0, .inr (7, [.ref p1, .ref p2, .ref q6, .ref q1, .ref q4, .ref q5, .int 0, .int 0, .int 0, .int 0])), (q1, .inr (10, [.int 0, .int 0, .int 0, .int 0, .int 0, .int 0, .ref q3])), (q3, .inl (cI, 4, .inl (fun _ => 0))), (q4, .inl (cF, 16, .inr (.inr (.inr (.inr ff_15))))), (q5, .inl (cI, 3, .inl (fun _ => 0))), (q16, .inr (4, [.null, .null, .int 0, .int 0, .null]))] := hD
  refine lv_dup hx hb dX7_init_72 rfl ?_
  have hPc := hP.sub (ws' := [(q16, .inr (4, [.null, .null, .int 0, .int 0, .null]))]) [5] rfl
  have hDc := hD.sub (ws' := [(q16, .inr (4, [.null, .null, .int 0, .int 0, .null]))]) [5] (by decide) rfl
  have hFc := va_free (wc := [(q16, .inr (4, [.null, .null, .int 0, .int 0, .null]))]) hD hS hA [5] rfl
  refine va_callv (va_runIN (As := []) (rest := [.ref q16, .int 2, .ref q4]) ⟨hx, hb, hml, hown, hts⟩ (zc_X4_init l D cI cZ cP cF q16 H.size) ⟨va_cnB 0 hts zg_zc_X7_init_zc_X4_init rfl rfl rfl hE.nX7_45 (hts (.initialized RX4) (List.mem_of_getElem? (i := 33) rfl)) (by decide +kernel) ⟨Nat.le_of_ble_eq_true rfl, Nat.le_of_ble_eq_true rfl⟩, rfl, (hts (.instanceMethod yX4_init) (List.mem_of_getElem? (i := 37) rfl))⟩ ⟨zBW, fun U hU hW => ⟨rfl, by rw [hU], by rw [hU]; exact hPc, hE.warm hW, hDc.weaken (fun _ _ _ _ => trivial)⟩⟩ rfl rfl hl.1 rfl (lv_room (Nat.le_of_ble_eq_true rfl)) dX7_init_73 ⟨Nat.le_of_ble_eq_true rfl, Nat.le_of_ble_eq_true rfl⟩) hS (fun q _ h => hFc q h) hFc (fun u t H1 locs ht hvm h_73_17 hB hz1 hk1 hS => ?_)
  obtain ⟨q18, hP1, hD1⟩ := hB
  rw [ht] at hP1
  obtain ⟨hP, hD⟩ := va_join (wr := [(h0, .inr (7, [.ref p1, .ref p2, .ref q6, .ref q1, .ref q4, .ref q5, .int 0, .int 0, .int 0, .int 0])), (q1, .inr (10, [.int 0, .int 0, .int 0, .int 0, .int 0, .int 0, .ref q3])), (q3, .inl (cI, 4, .inl (fun _ => 0))), (q4, .inl (cF, 16, .inr (.inr (.inr (.inr ff_15))))), (q5, .inl (cI, 3, .inl (fun _ => 0)))]) (w1 := [(q16, .inr (4, [.null, .null, .int 0, .int 0, .ref q18]))]) hP hD [5] [0, 1, 2, 3, 4] rfl rfl (by decide) (by decide) hk1 hFc hP1 hD1
  generalize H1 = H at hP hS ⊢
  have hP : va_P D vwCl [(h0, .inr (7, [.ref p1, .ref p2, .ref q6, .ref q1, .ref q4, .ref q5, .int 0, .int 0, .int 0, .int 0])), (q1, .inr (10, [.int 0, .int 0, .int 0, .int 0, .int 0, .int 0, .ref q3])), (q3, .inl (cI, 4, .inl (fun _ => 0))), (q4, .inl (cF, 16, .inr (.inr (.inr (.inr ff_15))))), (q5, .inl (cI, 3, .inl (fun _ => 0))), (q16, .inr (4, [.null, .null, .int 0, .int 0, .ref q18]))] H := hP
  have hD : va_D A [(h0, .inr (7, [.ref p1, .ref p2, .ref q6, .ref q1, .ref q4, .ref q5, .int 0, .int 0, .int 0, .int 0])), (q1, .inr (10, [.int 0, .int 0, .int 0, .int 0, .int 0, .int 0, .ref q3])), (q3, .inl (cI, 4, .inl (fun _ => 0))), (q4, .inl (cF, 16, .inr (.inr (.inr (.inr ff_15))))), (q5, .inl (cI, 3, .inl (fun _ => 0))), (q16, .inr (4, [.null, .null, .int 0, .int 0, .ref q18]))] := hD
  have hin_76 : vp_in 2 16 := by unfold vp_in; decide
  refine va_astq hx hb hK hP hD hS 3 3 5 4 rfl rfl rfl rfl hin_76 dX7_init_76 (fun H locs hP hD hS => ?_)
  have hP : va_P D vwCl [(h0, .inr (7, [.ref p1, .ref p2, .ref q6, .ref q1, .ref q4, .ref q5, .int 0, .int 0, .int 0, .int 0])), (q1, .inr (10, [.int 0, .int 0, .int 0, .int 0, .int 0, .int 0, .ref q3])), (q3, .inl (cI, 4, .inl (fun _ => 0))), (q4, .inl (cF, 16, .inr (.inr (.inr (.inr (va_up ff_15 (2 : Int32).toNatClampNeg (some q16))))))), (q5, .inl (cI, 3, .inl (fun _ => 0))), (q16, .inr (4, [.null, .null, .int 0, .int 0, .ref q18]))] H := hP
  have hD : va_D A [(h0, .inr (7, [.ref p1, .ref p2, .ref q6, .ref q1, .ref q4, .ref q5, .int 0, .int 0, .int 0, .int 0])), (q1, .inr (10, [.int 0, .int 0, .int 0, .int 0, .int 0, .int 0, .ref q3])), (q3, .inl (cI, 4, .inl (fun _ => 0))), (q4, .inl (cF, 16, .inr (.inr (.inr (.inr (va_up ff_15 (2 : Int32).toNatClampNeg (some q16))))))), (q5, .inl (cI, 3, .inl (fun _ => 0))), (q16, .inr (4, [.null, .null, .int 0, .int 0, .ref q18]))] := hD
  have hP := hP.sub (ws' := [(h0, .inr (7, [.ref p1, .ref p2, .ref q6, .ref q1, .ref q4, .ref q5, .int 0, .int 0, .int 0, .int 0])), (q1, .inr (10, [.int 0, .int 0, .int 0, .int 0, .int 0, .int 0, .ref q3])), (q3, .inl (cI, 4, .inl (fun _ => 0))), (q4, .inl (cF, 16, .inr (.inr (.inr (.inr (va_up ff_15 (2 : Int32).toNatClampNeg (some q16))))))), (q5, .inl (cI, 3, .inl (fun _ => 0)))]) [0, 1, 2, 3, 4] rfl
  have hD := hD.sub (ws' := [(h0, .inr (7, [.ref p1, .ref p2, .ref q6, .ref q1, .ref q4, .ref q5, .int 0, .int 0, .int 0, .int 0])), (q1, .inr (10, [.int 0, .int 0, .int 0, .int 0, .int 0, .int 0, .ref q3])), (q3, .inl (cI, 4, .inl (fun _ => 0))), (q4, .inl (cF, 16, .inr (.inr (.inr (.inr (va_up ff_15 (2 : Int32).toNatClampNeg (some q16))))))), (q5, .inl (cI, 3, .inl (fun _ => 0)))]) [0, 1, 2, 3, 4] (by decide) rfl
  generalize (va_up ff_15 (2 : Int32).toNatClampNeg (some q16)) = ff_19 at hP hD
  refine lv_iinc (v := 3) (lv' := [(4, .int 3), (0, .ref h0), (1, .ref p1), (2, .ref p2), (3, .ref p3)]) hx hb dX7_init_77 hl (k := 0) rfl (by decide) (by decide) rfl (fun ls hl => ?_)
  refine lv_goto (tgt := 56) hx hb dX7_init_80 (by decide) ?_
  refine lv_iload hx hb dX7_init_56 (lv_at hl 0 rfl) ?_
  refine lv_bipush (v := 16) hx hb dX7_init_58 (by decide) ?_
  refine lv_icmp_ge (tgt := 83) hx hb dX7_init_60 (by decide) (fun c => absurd c (by decide)) (fun _ => ?_)
  refine lv_aload_n hx hb dX7_init_63 rfl (lv_at hl 1 rfl) ?_
  refine va_get (D := D) (ci := 7) (v := .ref q4) (C := RX7) (T := TX7) (N := 10) hx hb hts (fun _ h => List.mem_cons_of_mem _ (List.mem_append_left _ (List.mem_append_left _ (List.mem_append_right _ h)))) hown hK hP 0 rfl rfl 4 (by decide) (hts (.fieldLink RX7 20 "TemplateForge$Machine" "frames" "[LTemplateForge$Frame;") (List.mem_of_getElem? (i := 14) rfl)) (fun _ h9 => h9) rfl dX7_init_64 ?_
  refine lv_iload hx hb dX7_init_67 (lv_at hl 0 rfl) ?_
  refine va_new (ci := 4) (fs := [.null, .null, .int 0, .int 0, .null]) (C := RX4) (T := TX4) (N := 5) hx hb hts (fun _ h => List.mem_cons_of_mem _ (List.mem_append_right _ h)) tyX4 tyX4_ok hown (hts (.classLink RX7 18 RX4) (List.mem_of_getElem? (i := 13) rfl)) (hts (.instantiable RX4 5) (List.mem_of_getElem? (i := 32) rfl)) (hts (.initialized RX4) (List.mem_of_getElem? (i := 33) rfl)) hK hP hD hS hA rfl (fun j hj => by rcases (show j = 0 ∨ j = 1 ∨ j = 2 ∨ j = 3 ∨ j = 4 by omega) with rfl | rfl | rfl | rfl | rfl <;> rfl) (Nat.le_of_ble_eq_true rfl) (Nat.le_of_ble_eq_true rfl) dX7_init_69 (fun q20 H hP hD hS => ?_)
  have hP : va_P D vwCl [(h0, .inr (7, [.ref p1, .ref p2, .ref q6, .ref q1, .ref q4, .ref q5, .int 0, .int 0, .int 0, .int 0])), (q1, .inr (10, [.int 0, .int 0, .int 0, .int 0, .int 0, .int 0, .ref q3])), (q3, .inl (cI, 4, .inl (fun _ => 0))), (q4, .inl (cF, 16, .inr (.inr (.inr (.inr ff_19))))), (q5, .inl (cI, 3, .inl (fun _ => 0))), (q20, .inr (4, [.null, .null, .int 0, .int 0, .null]))] H := hP
  have hD : va_D A [(h0, .inr (7, [.ref p1, .ref p2, .ref q6, .ref q1, .ref q4, .ref q5, .int 0, .int 0, .int 0, .int 0])), (q1, .inr (10, [.int 0, .int 0, .int 0, .int 0, .int 0, .int 0, .ref q3])), (q3, .inl (cI, 4, .inl (fun _ => 0))), (q4, .inl (cF, 16, .inr (.inr (.inr (.inr ff_19))))), (q5, .inl (cI, 3, .inl (fun _ => 0))), (q20, .inr (4, [.null, .null, .int 0, .int 0, .null]))] := hD
  refine lv_dup hx hb dX7_init_72 rfl ?_
  have hPc := hP.sub (ws' := [(q20, .inr (4, [.null, .null, .int 0, .int 0, .null]))]) [5] rfl
  have hDc := hD.sub (ws' := [(q20, .inr (4, [.null, .null, .int 0, .int 0, .null]))]) [5] (by decide) rfl
  have hFc := va_free (wc := [(q20, .inr (4, [.null, .null, .int 0, .int 0, .null]))]) hD hS hA [5] rfl
  refine va_callv (va_runIN (As := []) (rest := [.ref q20, .int 3, .ref q4]) ⟨hx, hb, hml, hown, hts⟩ (zc_X4_init l D cI cZ cP cF q20 H.size) ⟨va_cnB 0 hts zg_zc_X7_init_zc_X4_init rfl rfl rfl hE.nX7_45 (hts (.initialized RX4) (List.mem_of_getElem? (i := 33) rfl)) (by decide +kernel) ⟨Nat.le_of_ble_eq_true rfl, Nat.le_of_ble_eq_true rfl⟩, rfl, (hts (.instanceMethod yX4_init) (List.mem_of_getElem? (i := 37) rfl))⟩ ⟨zBW, fun U hU hW => ⟨rfl, by rw [hU], by rw [hU]; exact hPc, hE.warm hW, hDc.weaken (fun _ _ _ _ => trivial)⟩⟩ rfl rfl hl.1 rfl (lv_room (Nat.le_of_ble_eq_true rfl)) dX7_init_73 ⟨Nat.le_of_ble_eq_true rfl, Nat.le_of_ble_eq_true rfl⟩) hS (fun q _ h => hFc q h) hFc (fun u t H1 locs ht hvm h_73_21 hB hz1 hk1 hS => ?_)
  obtain ⟨q22, hP1, hD1⟩ := hB
  rw [ht] at hP1
  obtain ⟨hP, hD⟩ := va_join (wr := [(h0, .inr (7, [.ref p1, .ref p2, .ref q6, .ref q1, .ref q4, .ref q5, .int 0, .int 0, .int 0, .int 0])), (q1, .inr (10, [.int 0, .int 0, .int 0, .int 0, .int 0, .int 0, .ref q3])), (q3, .inl (cI, 4, .inl (fun _ => 0))), (q4, .inl (cF, 16, .inr (.inr (.inr (.inr ff_19))))), (q5, .inl (cI, 3, .inl (fun _ => 0)))]) (w1 := [(q20, .inr (4, [.null, .null, .int 0, .int 0, .ref q22]))]) hP hD [5] [0, 1, 2, 3, 4] rfl rfl (by decide) (by decide) hk1 hFc hP1 hD1
  generalize H1 = H at hP hS ⊢
  have hP : va_P D vwCl [(h0, .inr (7, [.ref p1, .ref p2, .ref q6, .ref q1, .ref q4, .ref q5, .int 0, .int 0, .int 0, .int 0])), (q1, .inr (10, [.int 0, .int 0, .int 0, .int 0, .int 0, .int 0, .ref q3])), (q3, .inl (cI, 4, .inl (fun _ => 0))), (q4, .inl (cF, 16, .inr (.inr (.inr (.inr ff_19))))), (q5, .inl (cI, 3, .inl (fun _ => 0))), (q20, .inr (4, [.null, .null, .int 0, .int 0, .ref q22]))] H := hP
  have hD : va_D A [(h0, .inr (7, [.ref p1, .ref p2, .ref q6, .ref q1, .ref q4, .ref q5, .int 0, .int 0, .int 0, .int 0])), (q1, .inr (10, [.int 0, .int 0, .int 0, .int 0, .int 0, .int 0, .ref q3])), (q3, .inl (cI, 4, .inl (fun _ => 0))), (q4, .inl (cF, 16, .inr (.inr (.inr (.inr ff_19))))), (q5, .inl (cI, 3, .inl (fun _ => 0))), (q20, .inr (4, [.null, .null, .int 0, .int 0, .ref q22]))] := hD
  have hin_76 : vp_in 3 16 := by unfold vp_in; decide
  refine va_astq hx hb hK hP hD hS 3 3 5 4 rfl rfl rfl rfl hin_76 dX7_init_76 (fun H locs hP hD hS => ?_)
  have hP : va_P D vwCl [(h0, .inr (7, [.ref p1, .ref p2, .ref q6, .ref q1, .ref q4, .ref q5, .int 0, .int 0, .int 0, .int 0])), (q1, .inr (10, [.int 0, .int 0, .int 0, .int 0, .int 0, .int 0, .ref q3])), (q3, .inl (cI, 4, .inl (fun _ => 0))), (q4, .inl (cF, 16, .inr (.inr (.inr (.inr (va_up ff_19 (3 : Int32).toNatClampNeg (some q20))))))), (q5, .inl (cI, 3, .inl (fun _ => 0))), (q20, .inr (4, [.null, .null, .int 0, .int 0, .ref q22]))] H := hP
  have hD : va_D A [(h0, .inr (7, [.ref p1, .ref p2, .ref q6, .ref q1, .ref q4, .ref q5, .int 0, .int 0, .int 0, .int 0])), (q1, .inr (10, [.int 0, .int 0, .int 0, .int 0, .int 0, .int 0, .ref q3])), (q3, .inl (cI, 4, .inl (fun _ => 0))), (q4, .inl (cF, 16, .inr (.inr (.inr (.inr (va_up ff_19 (3 : Int32).toNatClampNeg (some q20))))))), (q5, .inl (cI, 3, .inl (fun _ => 0))), (q20, .inr (4, [.null, .null, .int 0, .int 0, .ref q22]))] := hD
  have hP := hP.sub (ws' := [(h0, .inr (7, [.ref p1, .ref p2, .ref q6, .ref q1, .ref q4, .ref q5, .int 0, .int 0, .int 0, .int 0])), (q1, .inr (10, [.int 0, .int 0, .int 0, .int 0, .int 0, .int 0, .ref q3])), (q3, .inl (cI, 4, .inl (fun _ => 0))), (q4, .inl (cF, 16, .inr (.inr (.inr (.inr (va_up ff_19 (3 : Int32).toNatClampNeg (some q20))))))), (q5, .inl (cI, 3, .inl (fun _ => 0)))]) [0, 1, 2, 3, 4] rfl
  have hD := hD.sub (ws' := [(h0, .inr (7, [.ref p1, .ref p2, .ref q6, .ref q1, .ref q4, .ref q5, .int 0, .int 0, .int 0, .int 0])), (q1, .inr (10, [.int 0, .int 0, .int 0, .int 0, .int 0, .int 0, .ref q3])), (q3, .inl (cI, 4, .inl (fun _ => 0))), (q4, .inl (cF, 16, .inr (.inr (.inr (.inr (va_up ff_19 (3 : Int32).toNatClampNeg (some q20))))))), (q5, .inl (cI, 3, .inl (fun _ => 0)))]) [0, 1, 2, 3, 4] (by decide) rfl
  generalize (va_up ff_19 (3 : Int32).toNatClampNeg (some q20)) = ff_23 at hP hD
  refine lv_iinc (v := 4) (lv' := [(4, .int 4), (0, .ref h0), (1, .ref p1), (2, .ref p2), (3, .ref p3)]) hx hb dX7_init_77 hl (k := 0) rfl (by decide) (by decide) rfl (fun ls hl => ?_)
  refine lv_goto (tgt := 56) hx hb dX7_init_80 (by decide) ?_
  refine lv_iload hx hb dX7_init_56 (lv_at hl 0 rfl) ?_
  refine lv_bipush (v := 16) hx hb dX7_init_58 (by decide) ?_
  refine lv_icmp_ge (tgt := 83) hx hb dX7_init_60 (by decide) (fun c => absurd c (by decide)) (fun _ => ?_)
  refine lv_aload_n hx hb dX7_init_63 rfl (lv_at hl 1 rfl) ?_
  refine va_get (D := D) (ci := 7) (v := .ref q4) (C := RX7) (T := TX7) (N := 10) hx hb hts (fun _ h => List.mem_cons_of_mem _ (List.mem_append_left _ (List.mem_append_left _ (List.mem_append_right _ h)))) hown hK hP 0 rfl rfl 4 (by decide) (hts (.fieldLink RX7 20 "TemplateForge$Machine" "frames" "[LTemplateForge$Frame;") (List.mem_of_getElem? (i := 14) rfl)) (fun _ h9 => h9) rfl dX7_init_64 ?_
  refine lv_iload hx hb dX7_init_67 (lv_at hl 0 rfl) ?_
  refine va_new (ci := 4) (fs := [.null, .null, .int 0, .int 0, .null]) (C := RX4) (T := TX4) (N := 5) hx hb hts (fun _ h => List.mem_cons_of_mem _ (List.mem_append_right _ h)) tyX4 tyX4_ok hown (hts (.classLink RX7 18 RX4) (List.mem_of_getElem? (i := 13) rfl)) (hts (.instantiable RX4 5) (List.mem_of_getElem? (i := 32) rfl)) (hts (.initialized RX4) (List.mem_of_getElem? (i := 33) rfl)) hK hP hD hS hA rfl (fun j hj => by rcases (show j = 0 ∨ j = 1 ∨ j = 2 ∨ j = 3 ∨ j = 4 by omega) with rfl | rfl | rfl | rfl | rfl <;> rfl) (Nat.le_of_ble_eq_true rfl) (Nat.le_of_ble_eq_true rfl) dX7_init_69 (fun q24 H hP hD hS => ?_)
  have hP : va_P D vwCl [(h0, .inr (7, [.ref p1, .ref p2, .ref q6, .ref q1, .ref q4, .ref q5, .int 0, .int 0, .int 0, .int 0])), (q1, .inr (10, [.int 0, .int 0, .int 0, .int 0, .int 0, .int 0, .ref q3])), (q3, .inl (cI, 4, .inl (fun _ => 0))), (q4, .inl (cF, 16, .inr (.inr (.inr (.inr ff_23))))), (q5, .inl (cI, 3, .inl (fun _ => 0))), (q24, .inr (4, [.null, .null, .int 0, .int 0, .null]))] H := hP
  have hD : va_D A [(h0, .inr (7, [.ref p1, .ref p2, .ref q6, .ref q1, .ref q4, .ref q5, .int 0, .int 0, .int 0, .int 0])), (q1, .inr (10, [.int 0, .int 0, .int 0, .int 0, .int 0, .int 0, .ref q3])), (q3, .inl (cI, 4, .inl (fun _ => 0))), (q4, .inl (cF, 16, .inr (.inr (.inr (.inr ff_23))))), (q5, .inl (cI, 3, .inl (fun _ => 0))), (q24, .inr (4, [.null, .null, .int 0, .int 0, .null]))] := hD
  refine lv_dup hx hb dX7_init_72 rfl ?_
  have hPc := hP.sub (ws' := [(q24, .inr (4, [.null, .null, .int 0, .int 0, .null]))]) [5] rfl
  have hDc := hD.sub (ws' := [(q24, .inr (4, [.null, .null, .int 0, .int 0, .null]))]) [5] (by decide) rfl
  have hFc := va_free (wc := [(q24, .inr (4, [.null, .null, .int 0, .int 0, .null]))]) hD hS hA [5] rfl
  refine va_callv (va_runIN (As := []) (rest := [.ref q24, .int 4, .ref q4]) ⟨hx, hb, hml, hown, hts⟩ (zc_X4_init l D cI cZ cP cF q24 H.size) ⟨va_cnB 0 hts zg_zc_X7_init_zc_X4_init rfl rfl rfl hE.nX7_45 (hts (.initialized RX4) (List.mem_of_getElem? (i := 33) rfl)) (by decide +kernel) ⟨Nat.le_of_ble_eq_true rfl, Nat.le_of_ble_eq_true rfl⟩, rfl, (hts (.instanceMethod yX4_init) (List.mem_of_getElem? (i := 37) rfl))⟩ ⟨zBW, fun U hU hW => ⟨rfl, by rw [hU], by rw [hU]; exact hPc, hE.warm hW, hDc.weaken (fun _ _ _ _ => trivial)⟩⟩ rfl rfl hl.1 rfl (lv_room (Nat.le_of_ble_eq_true rfl)) dX7_init_73 ⟨Nat.le_of_ble_eq_true rfl, Nat.le_of_ble_eq_true rfl⟩) hS (fun q _ h => hFc q h) hFc (fun u t H1 locs ht hvm h_73_25 hB hz1 hk1 hS => ?_)
  obtain ⟨q26, hP1, hD1⟩ := hB
  rw [ht] at hP1
  obtain ⟨hP, hD⟩ := va_join (wr := [(h0, .inr (7, [.ref p1, .ref p2, .ref q6, .ref q1, .ref q4, .ref q5, .int 0, .int 0, .int 0, .int 0])), (q1, .inr (10, [.int 0, .int 0, .int 0, .int 0, .int 0, .int 0, .ref q3])), (q3, .inl (cI, 4, .inl (fun _ => 0))), (q4, .inl (cF, 16, .inr (.inr (.inr (.inr ff_23))))), (q5, .inl (cI, 3, .inl (fun _ => 0)))]) (w1 := [(q24, .inr (4, [.null, .null, .int 0, .int 0, .ref q26]))]) hP hD [5] [0, 1, 2, 3, 4] rfl rfl (by decide) (by decide) hk1 hFc hP1 hD1
  generalize H1 = H at hP hS ⊢
  have hP : va_P D vwCl [(h0, .inr (7, [.ref p1, .ref p2, .ref q6, .ref q1, .ref q4, .ref q5, .int 0, .int 0, .int 0, .int 0])), (q1, .inr (10, [.int 0, .int 0, .int 0, .int 0, .int 0, .int 0, .ref q3])), (q3, .inl (cI, 4, .inl (fun _ => 0))), (q4, .inl (cF, 16, .inr (.inr (.inr (.inr ff_23))))), (q5, .inl (cI, 3, .inl (fun _ => 0))), (q24, .inr (4, [.null, .null, .int 0, .int 0, .ref q26]))] H := hP
  have hD : va_D A [(h0, .inr (7, [.ref p1, .ref p2, .ref q6, .ref q1, .ref q4, .ref q5, .int 0, .int 0, .int 0, .int 0])), (q1, .inr (10, [.int 0, .int 0, .int 0, .int 0, .int 0, .int 0, .ref q3])), (q3, .inl (cI, 4, .inl (fun _ => 0))), (q4, .inl (cF, 16, .inr (.inr (.inr (.inr ff_23))))), (q5, .inl (cI, 3, .inl (fun _ => 0))), (q24, .inr (4, [.null, .null, .int 0, .int 0, .ref q26]))] := hD
  have hin_76 : vp_in 4 16 := by unfold vp_in; decide
  refine va_astq hx hb hK hP hD hS 3 3 5 4 rfl rfl rfl rfl hin_76 dX7_init_76 (fun H locs hP hD hS => ?_)
  have hP : va_P D vwCl [(h0, .inr (7, [.ref p1, .ref p2, .ref q6, .ref q1, .ref q4, .ref q5, .int 0, .int 0, .int 0, .int 0])), (q1, .inr (10, [.int 0, .int 0, .int 0, .int 0, .int 0, .int 0, .ref q3])), (q3, .inl (cI, 4, .inl (fun _ => 0))), (q4, .inl (cF, 16, .inr (.inr (.inr (.inr (va_up ff_23 (4 : Int32).toNatClampNeg (some q24))))))), (q5, .inl (cI, 3, .inl (fun _ => 0))), (q24, .inr (4, [.null, .null, .int 0, .int 0, .ref q26]))] H := hP
  have hD : va_D A [(h0, .inr (7, [.ref p1, .ref p2, .ref q6, .ref q1, .ref q4, .ref q5, .int 0, .int 0, .int 0, .int 0])), (q1, .inr (10, [.int 0, .int 0, .int 0, .int 0, .int 0, .int 0, .ref q3])), (q3, .inl (cI, 4, .inl (fun _ => 0))), (q4, .inl (cF, 16, .inr (.inr (.inr (.inr (va_up ff_23 (4 : Int32).toNatClampNeg (some q24))))))), (q5, .inl (cI, 3, .inl (fun _ => 0))), (q24, .inr (4, [.null, .null, .int 0, .int 0, .ref q26]))] := hD
  have hP := hP.sub (ws' := [(h0, .inr (7, [.ref p1, .ref p2, .ref q6, .ref q1, .ref q4, .ref q5, .int 0, .int 0, .int 0, .int 0])), (q1, .inr (10, [.int 0, .int 0, .int 0, .int 0, .int 0, .int 0, .ref q3])), (q3, .inl (cI, 4, .inl (fun _ => 0))), (q4, .inl (cF, 16, .inr (.inr (.inr (.inr (va_up ff_23 (4 : Int32).toNatClampNeg (some q24))))))), (q5, .inl (cI, 3, .inl (fun _ => 0)))]) [0, 1, 2, 3, 4] rfl
  have hD := hD.sub (ws' := [(h0, .inr (7, [.ref p1, .ref p2, .ref q6, .ref q1, .ref q4, .ref q5, .int 0, .int 0, .int 0, .int 0])), (q1, .inr (10, [.int 0, .int 0, .int 0, .int 0, .int 0, .int 0, .ref q3])), (q3, .inl (cI, 4, .inl (fun _ => 0))), (q4, .inl (cF, 16, .inr (.inr (.inr (.inr (va_up ff_23 (4 : Int32).toNatClampNeg (some q24))))))), (q5, .inl (cI, 3, .inl (fun _ => 0)))]) [0, 1, 2, 3, 4] (by decide) rfl
  generalize (va_up ff_23 (4 : Int32).toNatClampNeg (some q24)) = ff_27 at hP hD
  refine lv_iinc (v := 5) (lv' := [(4, .int 5), (0, .ref h0), (1, .ref p1), (2, .ref p2), (3, .ref p3)]) hx hb dX7_init_77 hl (k := 0) rfl (by decide) (by decide) rfl (fun ls hl => ?_)
  refine lv_goto (tgt := 56) hx hb dX7_init_80 (by decide) ?_
  refine lv_iload hx hb dX7_init_56 (lv_at hl 0 rfl) ?_
  refine lv_bipush (v := 16) hx hb dX7_init_58 (by decide) ?_
  refine lv_icmp_ge (tgt := 83) hx hb dX7_init_60 (by decide) (fun c => absurd c (by decide)) (fun _ => ?_)
  refine lv_aload_n hx hb dX7_init_63 rfl (lv_at hl 1 rfl) ?_
  refine va_get (D := D) (ci := 7) (v := .ref q4) (C := RX7) (T := TX7) (N := 10) hx hb hts (fun _ h => List.mem_cons_of_mem _ (List.mem_append_left _ (List.mem_append_left _ (List.mem_append_right _ h)))) hown hK hP 0 rfl rfl 4 (by decide) (hts (.fieldLink RX7 20 "TemplateForge$Machine" "frames" "[LTemplateForge$Frame;") (List.mem_of_getElem? (i := 14) rfl)) (fun _ h9 => h9) rfl dX7_init_64 ?_
  refine lv_iload hx hb dX7_init_67 (lv_at hl 0 rfl) ?_
  refine va_new (ci := 4) (fs := [.null, .null, .int 0, .int 0, .null]) (C := RX4) (T := TX4) (N := 5) hx hb hts (fun _ h => List.mem_cons_of_mem _ (List.mem_append_right _ h)) tyX4 tyX4_ok hown (hts (.classLink RX7 18 RX4) (List.mem_of_getElem? (i := 13) rfl)) (hts (.instantiable RX4 5) (List.mem_of_getElem? (i := 32) rfl)) (hts (.initialized RX4) (List.mem_of_getElem? (i := 33) rfl)) hK hP hD hS hA rfl (fun j hj => by rcases (show j = 0 ∨ j = 1 ∨ j = 2 ∨ j = 3 ∨ j = 4 by omega) with rfl | rfl | rfl | rfl | rfl <;> rfl) (Nat.le_of_ble_eq_true rfl) (Nat.le_of_ble_eq_true rfl) dX7_init_69 (fun q28 H hP hD hS => ?_)
  have hP : va_P D vwCl [(h0, .inr (7, [.ref p1, .ref p2, .ref q6, .ref q1, .ref q4, .ref q5, .int 0, .int 0, .int 0, .int 0])), (q1, .inr (10, [.int 0, .int 0, .int 0, .int 0, .int 0, .int 0, .ref q3])), (q3, .inl (cI, 4, .inl (fun _ => 0))), (q4, .inl (cF, 16, .inr (.inr (.inr (.inr ff_27))))), (q5, .inl (cI, 3, .inl (fun _ => 0))), (q28, .inr (4, [.null, .null, .int 0, .int 0, .null]))] H := hP
  have hD : va_D A [(h0, .inr (7, [.ref p1, .ref p2, .ref q6, .ref q1, .ref q4, .ref q5, .int 0, .int 0, .int 0, .int 0])), (q1, .inr (10, [.int 0, .int 0, .int 0, .int 0, .int 0, .int 0, .ref q3])), (q3, .inl (cI, 4, .inl (fun _ => 0))), (q4, .inl (cF, 16, .inr (.inr (.inr (.inr ff_27))))), (q5, .inl (cI, 3, .inl (fun _ => 0))), (q28, .inr (4, [.null, .null, .int 0, .int 0, .null]))] := hD
  refine lv_dup hx hb dX7_init_72 rfl ?_
  have hPc := hP.sub (ws' := [(q28, .inr (4, [.null, .null, .int 0, .int 0, .null]))]) [5] rfl
  have hDc := hD.sub (ws' := [(q28, .inr (4, [.null, .null, .int 0, .int 0, .null]))]) [5] (by decide) rfl
  have hFc := va_free (wc := [(q28, .inr (4, [.null, .null, .int 0, .int 0, .null]))]) hD hS hA [5] rfl
  refine va_callv (va_runIN (As := []) (rest := [.ref q28, .int 5, .ref q4]) ⟨hx, hb, hml, hown, hts⟩ (zc_X4_init l D cI cZ cP cF q28 H.size) ⟨va_cnB 0 hts zg_zc_X7_init_zc_X4_init rfl rfl rfl hE.nX7_45 (hts (.initialized RX4) (List.mem_of_getElem? (i := 33) rfl)) (by decide +kernel) ⟨Nat.le_of_ble_eq_true rfl, Nat.le_of_ble_eq_true rfl⟩, rfl, (hts (.instanceMethod yX4_init) (List.mem_of_getElem? (i := 37) rfl))⟩ ⟨zBW, fun U hU hW => ⟨rfl, by rw [hU], by rw [hU]; exact hPc, hE.warm hW, hDc.weaken (fun _ _ _ _ => trivial)⟩⟩ rfl rfl hl.1 rfl (lv_room (Nat.le_of_ble_eq_true rfl)) dX7_init_73 ⟨Nat.le_of_ble_eq_true rfl, Nat.le_of_ble_eq_true rfl⟩) hS (fun q _ h => hFc q h) hFc (fun u t H1 locs ht hvm h_73_29 hB hz1 hk1 hS => ?_)
  obtain ⟨q30, hP1, hD1⟩ := hB
  rw [ht] at hP1
  obtain ⟨hP, hD⟩ := va_join (wr := [(h0, .inr (7, [.ref p1, .ref p2, .ref q6, .ref q1, .ref q4, .ref q5, .int 0, .int 0, .int 0, .int 0])), (q1, .inr (10, [.int 0, .int 0, .int 0, .int 0, .int 0, .int 0, .ref q3])), (q3, .inl (cI, 4, .inl (fun _ => 0))), (q4, .inl (cF, 16, .inr (.inr (.inr (.inr ff_27))))), (q5, .inl (cI, 3, .inl (fun _ => 0)))]) (w1 := [(q28, .inr (4, [.null, .null, .int 0, .int 0, .ref q30]))]) hP hD [5] [0, 1, 2, 3, 4] rfl rfl (by decide) (by decide) hk1 hFc hP1 hD1
  generalize H1 = H at hP hS ⊢
  have hP : va_P D vwCl [(h0, .inr (7, [.ref p1, .ref p2, .ref q6, .ref q1, .ref q4, .ref q5, .int 0, .int 0, .int 0, .int 0])), (q1, .inr (10, [.int 0, .int 0, .int 0, .int 0, .int 0, .int 0, .ref q3])), (q3, .inl (cI, 4, .inl (fun _ => 0))), (q4, .inl (cF, 16, .inr (.inr (.inr (.inr ff_27))))), (q5, .inl (cI, 3, .inl (fun _ => 0))), (q28, .inr (4, [.null, .null, .int 0, .int 0, .ref q30]))] H := hP
  have hD : va_D A [(h0, .inr (7, [.ref p1, .ref p2, .ref q6, .ref q1, .ref q4, .ref q5, .int 0, .int 0, .int 0, .int 0])), (q1, .inr (10, [.int 0, .int 0, .int 0, .int 0, .int 0, .int 0, .ref q3])), (q3, .inl (cI, 4, .inl (fun _ => 0))), (q4, .inl (cF, 16, .inr (.inr (.inr (.inr ff_27))))), (q5, .inl (cI, 3, .inl (fun _ => 0))), (q28, .inr (4, [.null, .null, .int 0, .int 0, .ref q30]))] := hD
  have hin_76 : vp_in 5 16 := by unfold vp_in; decide
  refine va_astq hx hb hK hP hD hS 3 3 5 4 rfl rfl rfl rfl hin_76 dX7_init_76 (fun H locs hP hD hS => ?_)
  have hP : va_P D vwCl [(h0, .inr (7, [.ref p1, .ref p2, .ref q6, .ref q1, .ref q4, .ref q5, .int 0, .int 0, .int 0, .int 0])), (q1, .inr (10, [.int 0, .int 0, .int 0, .int 0, .int 0, .int 0, .ref q3])), (q3, .inl (cI, 4, .inl (fun _ => 0))), (q4, .inl (cF, 16, .inr (.inr (.inr (.inr (va_up ff_27 (5 : Int32).toNatClampNeg (some q28))))))), (q5, .inl (cI, 3, .inl (fun _ => 0))), (q28, .inr (4, [.null, .null, .int 0, .int 0, .ref q30]))] H := hP
  have hD : va_D A [(h0, .inr (7, [.ref p1, .ref p2, .ref q6, .ref q1, .ref q4, .ref q5, .int 0, .int 0, .int 0, .int 0])), (q1, .inr (10, [.int 0, .int 0, .int 0, .int 0, .int 0, .int 0, .ref q3])), (q3, .inl (cI, 4, .inl (fun _ => 0))), (q4, .inl (cF, 16, .inr (.inr (.inr (.inr (va_up ff_27 (5 : Int32).toNatClampNeg (some q28))))))), (q5, .inl (cI, 3, .inl (fun _ => 0))), (q28, .inr (4, [.null, .null, .int 0, .int 0, .ref q30]))] := hD
  have hP := hP.sub (ws' := [(h0, .inr (7, [.ref p1, .ref p2, .ref q6, .ref q1, .ref q4, .ref q5, .int 0, .int 0, .int 0, .int 0])), (q1, .inr (10, [.int 0, .int 0, .int 0, .int 0, .int 0, .int 0, .ref q3])), (q3, .inl (cI, 4, .inl (fun _ => 0))), (q4, .inl (cF, 16, .inr (.inr (.inr (.inr (va_up ff_27 (5 : Int32).toNatClampNeg (some q28))))))), (q5, .inl (cI, 3, .inl (fun _ => 0)))]) [0, 1, 2, 3, 4] rfl
  have hD := hD.sub (ws' := [(h0, .inr (7, [.ref p1, .ref p2, .ref q6, .ref q1, .ref q4, .ref q5, .int 0, .int 0, .int 0, .int 0])), (q1, .inr (10, [.int 0, .int 0, .int 0, .int 0, .int 0, .int 0, .ref q3])), (q3, .inl (cI, 4, .inl (fun _ => 0))), (q4, .inl (cF, 16, .inr (.inr (.inr (.inr (va_up ff_27 (5 : Int32).toNatClampNeg (some q28))))))), (q5, .inl (cI, 3, .inl (fun _ => 0)))]) [0, 1, 2, 3, 4] (by decide) rfl
  generalize (va_up ff_27 (5 : Int32).toNatClampNeg (some q28)) = ff_31 at hP hD
  refine lv_iinc (v := 6) (lv' := [(4, .int 6), (0, .ref h0), (1, .ref p1), (2, .ref p2), (3, .ref p3)]) hx hb dX7_init_77 hl (k := 0) rfl (by decide) (by decide) rfl (fun ls hl => ?_)
  refine lv_goto (tgt := 56) hx hb dX7_init_80 (by decide) ?_
  refine lv_iload hx hb dX7_init_56 (lv_at hl 0 rfl) ?_
  refine lv_bipush (v := 16) hx hb dX7_init_58 (by decide) ?_
  refine lv_icmp_ge (tgt := 83) hx hb dX7_init_60 (by decide) (fun c => absurd c (by decide)) (fun _ => ?_)
  refine lv_aload_n hx hb dX7_init_63 rfl (lv_at hl 1 rfl) ?_
  refine va_get (D := D) (ci := 7) (v := .ref q4) (C := RX7) (T := TX7) (N := 10) hx hb hts (fun _ h => List.mem_cons_of_mem _ (List.mem_append_left _ (List.mem_append_left _ (List.mem_append_right _ h)))) hown hK hP 0 rfl rfl 4 (by decide) (hts (.fieldLink RX7 20 "TemplateForge$Machine" "frames" "[LTemplateForge$Frame;") (List.mem_of_getElem? (i := 14) rfl)) (fun _ h9 => h9) rfl dX7_init_64 ?_
  refine lv_iload hx hb dX7_init_67 (lv_at hl 0 rfl) ?_
  refine va_new (ci := 4) (fs := [.null, .null, .int 0, .int 0, .null]) (C := RX4) (T := TX4) (N := 5) hx hb hts (fun _ h => List.mem_cons_of_mem _ (List.mem_append_right _ h)) tyX4 tyX4_ok hown (hts (.classLink RX7 18 RX4) (List.mem_of_getElem? (i := 13) rfl)) (hts (.instantiable RX4 5) (List.mem_of_getElem? (i := 32) rfl)) (hts (.initialized RX4) (List.mem_of_getElem? (i := 33) rfl)) hK hP hD hS hA rfl (fun j hj => by rcases (show j = 0 ∨ j = 1 ∨ j = 2 ∨ j = 3 ∨ j = 4 by omega) with rfl | rfl | rfl | rfl | rfl <;> rfl) (Nat.le_of_ble_eq_true rfl) (Nat.le_of_ble_eq_true rfl) dX7_init_69 (fun q32 H hP hD hS => ?_)
  have hP : va_P D vwCl [(h0, .inr (7, [.ref p1, .ref p2, .ref q6, .ref q1, .ref q4, .ref q5, .int 0, .int 0, .int 0, .int 0])), (q1, .inr (10, [.int 0, .int 0, .int 0, .int 0, .int 0, .int 0, .ref q3])), (q3, .inl (cI, 4, .inl (fun _ => 0))), (q4, .inl (cF, 16, .inr (.inr (.inr (.inr ff_31))))), (q5, .inl (cI, 3, .inl (fun _ => 0))), (q32, .inr (4, [.null, .null, .int 0, .int 0, .null]))] H := hP
  have hD : va_D A [(h0, .inr (7, [.ref p1, .ref p2, .ref q6, .ref q1, .ref q4, .ref q5, .int 0, .int 0, .int 0, .int 0])), (q1, .inr (10, [.int 0, .int 0, .int 0, .int 0, .int 0, .int 0, .ref q3])), (q3, .inl (cI, 4, .inl (fun _ => 0))), (q4, .inl (cF, 16, .inr (.inr (.inr (.inr ff_31))))), (q5, .inl (cI, 3, .inl (fun _ => 0))), (q32, .inr (4, [.null, .null, .int 0, .int 0, .null]))] := hD
  refine lv_dup hx hb dX7_init_72 rfl ?_
  have hPc := hP.sub (ws' := [(q32, .inr (4, [.null, .null, .int 0, .int 0, .null]))]) [5] rfl
  have hDc := hD.sub (ws' := [(q32, .inr (4, [.null, .null, .int 0, .int 0, .null]))]) [5] (by decide) rfl
  have hFc := va_free (wc := [(q32, .inr (4, [.null, .null, .int 0, .int 0, .null]))]) hD hS hA [5] rfl
  refine va_callv (va_runIN (As := []) (rest := [.ref q32, .int 6, .ref q4]) ⟨hx, hb, hml, hown, hts⟩ (zc_X4_init l D cI cZ cP cF q32 H.size) ⟨va_cnB 0 hts zg_zc_X7_init_zc_X4_init rfl rfl rfl hE.nX7_45 (hts (.initialized RX4) (List.mem_of_getElem? (i := 33) rfl)) (by decide +kernel) ⟨Nat.le_of_ble_eq_true rfl, Nat.le_of_ble_eq_true rfl⟩, rfl, (hts (.instanceMethod yX4_init) (List.mem_of_getElem? (i := 37) rfl))⟩ ⟨zBW, fun U hU hW => ⟨rfl, by rw [hU], by rw [hU]; exact hPc, hE.warm hW, hDc.weaken (fun _ _ _ _ => trivial)⟩⟩ rfl rfl hl.1 rfl (lv_room (Nat.le_of_ble_eq_true rfl)) dX7_init_73 ⟨Nat.le_of_ble_eq_true rfl, Nat.le_of_ble_eq_true rfl⟩) hS (fun q _ h => hFc q h) hFc (fun u t H1 locs ht hvm h_73_33 hB hz1 hk1 hS => ?_)
  obtain ⟨q34, hP1, hD1⟩ := hB
  rw [ht] at hP1
  obtain ⟨hP, hD⟩ := va_join (wr := [(h0, .inr (7, [.ref p1, .ref p2, .ref q6, .ref q1, .ref q4, .ref q5, .int 0, .int 0, .int 0, .int 0])), (q1, .inr (10, [.int 0, .int 0, .int 0, .int 0, .int 0, .int 0, .ref q3])), (q3, .inl (cI, 4, .inl (fun _ => 0))), (q4, .inl (cF, 16, .inr (.inr (.inr (.inr ff_31))))), (q5, .inl (cI, 3, .inl (fun _ => 0)))]) (w1 := [(q32, .inr (4, [.null, .null, .int 0, .int 0, .ref q34]))]) hP hD [5] [0, 1, 2, 3, 4] rfl rfl (by decide) (by decide) hk1 hFc hP1 hD1
  generalize H1 = H at hP hS ⊢
  have hP : va_P D vwCl [(h0, .inr (7, [.ref p1, .ref p2, .ref q6, .ref q1, .ref q4, .ref q5, .int 0, .int 0, .int 0, .int 0])), (q1, .inr (10, [.int 0, .int 0, .int 0, .int 0, .int 0, .int 0, .ref q3])), (q3, .inl (cI, 4, .inl (fun _ => 0))), (q4, .inl (cF, 16, .inr (.inr (.inr (.inr ff_31))))), (q5, .inl (cI, 3, .inl (fun _ => 0))), (q32, .inr (4, [.null, .null, .int 0, .int 0, .ref q34]))] H := hP
  have hD : va_D A [(h0, .inr (7, [.ref p1, .ref p2, .ref q6, .ref q1, .ref q4, .ref q5, .int 0, .int 0, .int 0, .int 0])), (q1, .inr (10, [.int 0, .int 0, .int 0, .int 0, .int 0, .int 0, .ref q3])), (q3, .inl (cI, 4, .inl (fun _ => 0))), (q4, .inl (cF, 16, .inr (.inr (.inr (.inr ff_31))))), (q5, .inl (cI, 3, .inl (fun _ => 0))), (q32, .inr (4, [.null, .null, .int 0, .int 0, .ref q34]))] := hD
  have hin_76 : vp_in 6 16 := by unfold vp_in; decide
  refine va_astq hx hb hK hP hD hS 3 3 5 4 rfl rfl rfl rfl hin_76 dX7_init_76 (fun H locs hP hD hS => ?_)
  have hP : va_P D vwCl [(h0, .inr (7, [.ref p1, .ref p2, .ref q6, .ref q1, .ref q4, .ref q5, .int 0, .int 0, .int 0, .int 0])), (q1, .inr (10, [.int 0, .int 0, .int 0, .int 0, .int 0, .int 0, .ref q3])), (q3, .inl (cI, 4, .inl (fun _ => 0))), (q4, .inl (cF, 16, .inr (.inr (.inr (.inr (va_up ff_31 (6 : Int32).toNatClampNeg (some q32))))))), (q5, .inl (cI, 3, .inl (fun _ => 0))), (q32, .inr (4, [.null, .null, .int 0, .int 0, .ref q34]))] H := hP
  have hD : va_D A [(h0, .inr (7, [.ref p1, .ref p2, .ref q6, .ref q1, .ref q4, .ref q5, .int 0, .int 0, .int 0, .int 0])), (q1, .inr (10, [.int 0, .int 0, .int 0, .int 0, .int 0, .int 0, .ref q3])), (q3, .inl (cI, 4, .inl (fun _ => 0))), (q4, .inl (cF, 16, .inr (.inr (.inr (.inr (va_up ff_31 (6 : Int32).toNatClampNeg (some q32))))))), (q5, .inl (cI, 3, .inl (fun _ => 0))), (q32, .inr (4, [.null, .null, .int 0, .int 0, .ref q34]))] := hD
  have hP := hP.sub (ws' := [(h0, .inr (7, [.ref p1, .ref p2, .ref q6, .ref q1, .ref q4, .ref q5, .int 0, .int 0, .int 0, .int 0])), (q1, .inr (10, [.int 0, .int 0, .int 0, .int 0, .int 0, .int 0, .ref q3])), (q3, .inl (cI, 4, .inl (fun _ => 0))), (q4, .inl (cF, 16, .inr (.inr (.inr (.inr (va_up ff_31 (6 : Int32).toNatClampNeg (some q32))))))), (q5, .inl (cI, 3, .inl (fun _ => 0)))]) [0, 1, 2, 3, 4] rfl
  have hD := hD.sub (ws' := [(h0, .inr (7, [.ref p1, .ref p2, .ref q6, .ref q1, .ref q4, .ref q5, .int 0, .int 0, .int 0, .int 0])), (q1, .inr (10, [.int 0, .int 0, .int 0, .int 0, .int 0, .int 0, .ref q3])), (q3, .inl (cI, 4, .inl (fun _ => 0))), (q4, .inl (cF, 16, .inr (.inr (.inr (.inr (va_up ff_31 (6 : Int32).toNatClampNeg (some q32))))))), (q5, .inl (cI, 3, .inl (fun _ => 0)))]) [0, 1, 2, 3, 4] (by decide) rfl
  generalize (va_up ff_31 (6 : Int32).toNatClampNeg (some q32)) = ff_35 at hP hD
  refine lv_iinc (v := 7) (lv' := [(4, .int 7), (0, .ref h0), (1, .ref p1), (2, .ref p2), (3, .ref p3)]) hx hb dX7_init_77 hl (k := 0) rfl (by decide) (by decide) rfl (fun ls hl => ?_)
  refine lv_goto (tgt := 56) hx hb dX7_init_80 (by decide) ?_
  refine lv_iload hx hb dX7_init_56 (lv_at hl 0 rfl) ?_
  refine lv_bipush (v := 16) hx hb dX7_init_58 (by decide) ?_
  refine lv_icmp_ge (tgt := 83) hx hb dX7_init_60 (by decide) (fun c => absurd c (by decide)) (fun _ => ?_)
  refine lv_aload_n hx hb dX7_init_63 rfl (lv_at hl 1 rfl) ?_
  refine va_get (D := D) (ci := 7) (v := .ref q4) (C := RX7) (T := TX7) (N := 10) hx hb hts (fun _ h => List.mem_cons_of_mem _ (List.mem_append_left _ (List.mem_append_left _ (List.mem_append_right _ h)))) hown hK hP 0 rfl rfl 4 (by decide) (hts (.fieldLink RX7 20 "TemplateForge$Machine" "frames" "[LTemplateForge$Frame;") (List.mem_of_getElem? (i := 14) rfl)) (fun _ h9 => h9) rfl dX7_init_64 ?_
  refine lv_iload hx hb dX7_init_67 (lv_at hl 0 rfl) ?_
  refine va_new (ci := 4) (fs := [.null, .null, .int 0, .int 0, .null]) (C := RX4) (T := TX4) (N := 5) hx hb hts (fun _ h => List.mem_cons_of_mem _ (List.mem_append_right _ h)) tyX4 tyX4_ok hown (hts (.classLink RX7 18 RX4) (List.mem_of_getElem? (i := 13) rfl)) (hts (.instantiable RX4 5) (List.mem_of_getElem? (i := 32) rfl)) (hts (.initialized RX4) (List.mem_of_getElem? (i := 33) rfl)) hK hP hD hS hA rfl (fun j hj => by rcases (show j = 0 ∨ j = 1 ∨ j = 2 ∨ j = 3 ∨ j = 4 by omega) with rfl | rfl | rfl | rfl | rfl <;> rfl) (Nat.le_of_ble_eq_true rfl) (Nat.le_of_ble_eq_true rfl) dX7_init_69 (fun q36 H hP hD hS => ?_)
  have hP : va_P D vwCl [(h0, .inr (7, [.ref p1, .ref p2, .ref q6, .ref q1, .ref q4, .ref q5, .int 0, .int 0, .int 0, .int 0])), (q1, .inr (10, [.int 0, .int 0, .int 0, .int 0, .int 0, .int 0, .ref q3])), (q3, .inl (cI, 4, .inl (fun _ => 0))), (q4, .inl (cF, 16, .inr (.inr (.inr (.inr ff_35))))), (q5, .inl (cI, 3, .inl (fun _ => 0))), (q36, .inr (4, [.null, .null, .int 0, .int 0, .null]))] H := hP
  have hD : va_D A [(h0, .inr (7, [.ref p1, .ref p2, .ref q6, .ref q1, .ref q4, .ref q5, .int 0, .int 0, .int 0, .int 0])), (q1, .inr (10, [.int 0, .int 0, .int 0, .int 0, .int 0, .int 0, .ref q3])), (q3, .inl (cI, 4, .inl (fun _ => 0))), (q4, .inl (cF, 16, .inr (.inr (.inr (.inr ff_35))))), (q5, .inl (cI, 3, .inl (fun _ => 0))), (q36, .inr (4, [.null, .null, .int 0, .int 0, .null]))] := hD
  refine lv_dup hx hb dX7_init_72 rfl ?_
  have hPc := hP.sub (ws' := [(q36, .inr (4, [.null, .null, .int 0, .int 0, .null]))]) [5] rfl
  have hDc := hD.sub (ws' := [(q36, .inr (4, [.null, .null, .int 0, .int 0, .null]))]) [5] (by decide) rfl
  have hFc := va_free (wc := [(q36, .inr (4, [.null, .null, .int 0, .int 0, .null]))]) hD hS hA [5] rfl
  refine va_callv (va_runIN (As := []) (rest := [.ref q36, .int 7, .ref q4]) ⟨hx, hb, hml, hown, hts⟩ (zc_X4_init l D cI cZ cP cF q36 H.size) ⟨va_cnB 0 hts zg_zc_X7_init_zc_X4_init rfl rfl rfl hE.nX7_45 (hts (.initialized RX4) (List.mem_of_getElem? (i := 33) rfl)) (by decide +kernel) ⟨Nat.le_of_ble_eq_true rfl, Nat.le_of_ble_eq_true rfl⟩, rfl, (hts (.instanceMethod yX4_init) (List.mem_of_getElem? (i := 37) rfl))⟩ ⟨zBW, fun U hU hW => ⟨rfl, by rw [hU], by rw [hU]; exact hPc, hE.warm hW, hDc.weaken (fun _ _ _ _ => trivial)⟩⟩ rfl rfl hl.1 rfl (lv_room (Nat.le_of_ble_eq_true rfl)) dX7_init_73 ⟨Nat.le_of_ble_eq_true rfl, Nat.le_of_ble_eq_true rfl⟩) hS (fun q _ h => hFc q h) hFc (fun u t H1 locs ht hvm h_73_37 hB hz1 hk1 hS => ?_)
  obtain ⟨q38, hP1, hD1⟩ := hB
  rw [ht] at hP1
  obtain ⟨hP, hD⟩ := va_join (wr := [(h0, .inr (7, [.ref p1, .ref p2, .ref q6, .ref q1, .ref q4, .ref q5, .int 0, .int 0, .int 0, .int 0])), (q1, .inr (10, [.int 0, .int 0, .int 0, .int 0, .int 0, .int 0, .ref q3])), (q3, .inl (cI, 4, .inl (fun _ => 0))), (q4, .inl (cF, 16, .inr (.inr (.inr (.inr ff_35))))), (q5, .inl (cI, 3, .inl (fun _ => 0)))]) (w1 := [(q36, .inr (4, [.null, .null, .int 0, .int 0, .ref q38]))]) hP hD [5] [0, 1, 2, 3, 4] rfl rfl (by decide) (by decide) hk1 hFc hP1 hD1
  generalize H1 = H at hP hS ⊢
  have hP : va_P D vwCl [(h0, .inr (7, [.ref p1, .ref p2, .ref q6, .ref q1, .ref q4, .ref q5, .int 0, .int 0, .int 0, .int 0])), (q1, .inr (10, [.int 0, .int 0, .int 0, .int 0, .int 0, .int 0, .ref q3])), (q3, .inl (cI, 4, .inl (fun _ => 0))), (q4, .inl (cF, 16, .inr (.inr (.inr (.inr ff_35))))), (q5, .inl (cI, 3, .inl (fun _ => 0))), (q36, .inr (4, [.null, .null, .int 0, .int 0, .ref q38]))] H := hP
  have hD : va_D A [(h0, .inr (7, [.ref p1, .ref p2, .ref q6, .ref q1, .ref q4, .ref q5, .int 0, .int 0, .int 0, .int 0])), (q1, .inr (10, [.int 0, .int 0, .int 0, .int 0, .int 0, .int 0, .ref q3])), (q3, .inl (cI, 4, .inl (fun _ => 0))), (q4, .inl (cF, 16, .inr (.inr (.inr (.inr ff_35))))), (q5, .inl (cI, 3, .inl (fun _ => 0))), (q36, .inr (4, [.null, .null, .int 0, .int 0, .ref q38]))] := hD
  have hin_76 : vp_in 7 16 := by unfold vp_in; decide
  refine va_astq hx hb hK hP hD hS 3 3 5 4 rfl rfl rfl rfl hin_76 dX7_init_76 (fun H locs hP hD hS => ?_)
  have hP : va_P D vwCl [(h0, .inr (7, [.ref p1, .ref p2, .ref q6, .ref q1, .ref q4, .ref q5, .int 0, .int 0, .int 0, .int 0])), (q1, .inr (10, [.int 0, .int 0, .int 0, .int 0, .int 0, .int 0, .ref q3])), (q3, .inl (cI, 4, .inl (fun _ => 0))), (q4, .inl (cF, 16, .inr (.inr (.inr (.inr (va_up ff_35 (7 : Int32).toNatClampNeg (some q36))))))), (q5, .inl (cI, 3, .inl (fun _ => 0))), (q36, .inr (4, [.null, .null, .int 0, .int 0, .ref q38]))] H := hP
  have hD : va_D A [(h0, .inr (7, [.ref p1, .ref p2, .ref q6, .ref q1, .ref q4, .ref q5, .int 0, .int 0, .int 0, .int 0])), (q1, .inr (10, [.int 0, .int 0, .int 0, .int 0, .int 0, .int 0, .ref q3])), (q3, .inl (cI, 4, .inl (fun _ => 0))), (q4, .inl (cF, 16, .inr (.inr (.inr (.inr (va_up ff_35 (7 : Int32).toNatClampNeg (some q36))))))), (q5, .inl (cI, 3, .inl (fun _ => 0))), (q36, .inr (4, [.null, .null, .int 0, .int 0, .ref q38]))] := hD
  have hP := hP.sub (ws' := [(h0, .inr (7, [.ref p1, .ref p2, .ref q6, .ref q1, .ref q4, .ref q5, .int 0, .int 0, .int 0, .int 0])), (q1, .inr (10, [.int 0, .int 0, .int 0, .int 0, .int 0, .int 0, .ref q3])), (q3, .inl (cI, 4, .inl (fun _ => 0))), (q4, .inl (cF, 16, .inr (.inr (.inr (.inr (va_up ff_35 (7 : Int32).toNatClampNeg (some q36))))))), (q5, .inl (cI, 3, .inl (fun _ => 0)))]) [0, 1, 2, 3, 4] rfl
  have hD := hD.sub (ws' := [(h0, .inr (7, [.ref p1, .ref p2, .ref q6, .ref q1, .ref q4, .ref q5, .int 0, .int 0, .int 0, .int 0])), (q1, .inr (10, [.int 0, .int 0, .int 0, .int 0, .int 0, .int 0, .ref q3])), (q3, .inl (cI, 4, .inl (fun _ => 0))), (q4, .inl (cF, 16, .inr (.inr (.inr (.inr (va_up ff_35 (7 : Int32).toNatClampNeg (some q36))))))), (q5, .inl (cI, 3, .inl (fun _ => 0)))]) [0, 1, 2, 3, 4] (by decide) rfl
  generalize (va_up ff_35 (7 : Int32).toNatClampNeg (some q36)) = ff_39 at hP hD
  refine lv_iinc (v := 8) (lv' := [(4, .int 8), (0, .ref h0), (1, .ref p1), (2, .ref p2), (3, .ref p3)]) hx hb dX7_init_77 hl (k := 0) rfl (by decide) (by decide) rfl (fun ls hl => ?_)
  refine lv_goto (tgt := 56) hx hb dX7_init_80 (by decide) ?_
  refine lv_iload hx hb dX7_init_56 (lv_at hl 0 rfl) ?_
  refine lv_bipush (v := 16) hx hb dX7_init_58 (by decide) ?_
  refine lv_icmp_ge (tgt := 83) hx hb dX7_init_60 (by decide) (fun c => absurd c (by decide)) (fun _ => ?_)
  refine lv_aload_n hx hb dX7_init_63 rfl (lv_at hl 1 rfl) ?_
  refine va_get (D := D) (ci := 7) (v := .ref q4) (C := RX7) (T := TX7) (N := 10) hx hb hts (fun _ h => List.mem_cons_of_mem _ (List.mem_append_left _ (List.mem_append_left _ (List.mem_append_right _ h)))) hown hK hP 0 rfl rfl 4 (by decide) (hts (.fieldLink RX7 20 "TemplateForge$Machine" "frames" "[LTemplateForge$Frame;") (List.mem_of_getElem? (i := 14) rfl)) (fun _ h9 => h9) rfl dX7_init_64 ?_
  refine lv_iload hx hb dX7_init_67 (lv_at hl 0 rfl) ?_
  refine va_new (ci := 4) (fs := [.null, .null, .int 0, .int 0, .null]) (C := RX4) (T := TX4) (N := 5) hx hb hts (fun _ h => List.mem_cons_of_mem _ (List.mem_append_right _ h)) tyX4 tyX4_ok hown (hts (.classLink RX7 18 RX4) (List.mem_of_getElem? (i := 13) rfl)) (hts (.instantiable RX4 5) (List.mem_of_getElem? (i := 32) rfl)) (hts (.initialized RX4) (List.mem_of_getElem? (i := 33) rfl)) hK hP hD hS hA rfl (fun j hj => by rcases (show j = 0 ∨ j = 1 ∨ j = 2 ∨ j = 3 ∨ j = 4 by omega) with rfl | rfl | rfl | rfl | rfl <;> rfl) (Nat.le_of_ble_eq_true rfl) (Nat.le_of_ble_eq_true rfl) dX7_init_69 (fun q40 H hP hD hS => ?_)
  have hP : va_P D vwCl [(h0, .inr (7, [.ref p1, .ref p2, .ref q6, .ref q1, .ref q4, .ref q5, .int 0, .int 0, .int 0, .int 0])), (q1, .inr (10, [.int 0, .int 0, .int 0, .int 0, .int 0, .int 0, .ref q3])), (q3, .inl (cI, 4, .inl (fun _ => 0))), (q4, .inl (cF, 16, .inr (.inr (.inr (.inr ff_39))))), (q5, .inl (cI, 3, .inl (fun _ => 0))), (q40, .inr (4, [.null, .null, .int 0, .int 0, .null]))] H := hP
  have hD : va_D A [(h0, .inr (7, [.ref p1, .ref p2, .ref q6, .ref q1, .ref q4, .ref q5, .int 0, .int 0, .int 0, .int 0])), (q1, .inr (10, [.int 0, .int 0, .int 0, .int 0, .int 0, .int 0, .ref q3])), (q3, .inl (cI, 4, .inl (fun _ => 0))), (q4, .inl (cF, 16, .inr (.inr (.inr (.inr ff_39))))), (q5, .inl (cI, 3, .inl (fun _ => 0))), (q40, .inr (4, [.null, .null, .int 0, .int 0, .null]))] := hD
  refine lv_dup hx hb dX7_init_72 rfl ?_
  have hPc := hP.sub (ws' := [(q40, .inr (4, [.null, .null, .int 0, .int 0, .null]))]) [5] rfl
  have hDc := hD.sub (ws' := [(q40, .inr (4, [.null, .null, .int 0, .int 0, .null]))]) [5] (by decide) rfl
  have hFc := va_free (wc := [(q40, .inr (4, [.null, .null, .int 0, .int 0, .null]))]) hD hS hA [5] rfl
  refine va_callv (va_runIN (As := []) (rest := [.ref q40, .int 8, .ref q4]) ⟨hx, hb, hml, hown, hts⟩ (zc_X4_init l D cI cZ cP cF q40 H.size) ⟨va_cnB 0 hts zg_zc_X7_init_zc_X4_init rfl rfl rfl hE.nX7_45 (hts (.initialized RX4) (List.mem_of_getElem? (i := 33) rfl)) (by decide +kernel) ⟨Nat.le_of_ble_eq_true rfl, Nat.le_of_ble_eq_true rfl⟩, rfl, (hts (.instanceMethod yX4_init) (List.mem_of_getElem? (i := 37) rfl))⟩ ⟨zBW, fun U hU hW => ⟨rfl, by rw [hU], by rw [hU]; exact hPc, hE.warm hW, hDc.weaken (fun _ _ _ _ => trivial)⟩⟩ rfl rfl hl.1 rfl (lv_room (Nat.le_of_ble_eq_true rfl)) dX7_init_73 ⟨Nat.le_of_ble_eq_true rfl, Nat.le_of_ble_eq_true rfl⟩) hS (fun q _ h => hFc q h) hFc (fun u t H1 locs ht hvm h_73_41 hB hz1 hk1 hS => ?_)
  obtain ⟨q42, hP1, hD1⟩ := hB
  rw [ht] at hP1
  obtain ⟨hP, hD⟩ := va_join (wr := [(h0, .inr (7, [.ref p1, .ref p2, .ref q6, .ref q1, .ref q4, .ref q5, .int 0, .int 0, .int 0, .int 0])), (q1, .inr (10, [.int 0, .int 0, .int 0, .int 0, .int 0, .int 0, .ref q3])), (q3, .inl (cI, 4, .inl (fun _ => 0))), (q4, .inl (cF, 16, .inr (.inr (.inr (.inr ff_39))))), (q5, .inl (cI, 3, .inl (fun _ => 0)))]) (w1 := [(q40, .inr (4, [.null, .null, .int 0, .int 0, .ref q42]))]) hP hD [5] [0, 1, 2, 3, 4] rfl rfl (by decide) (by decide) hk1 hFc hP1 hD1
  generalize H1 = H at hP hS ⊢
  have hP : va_P D vwCl [(h0, .inr (7, [.ref p1, .ref p2, .ref q6, .ref q1, .ref q4, .ref q5, .int 0, .int 0, .int 0, .int 0])), (q1, .inr (10, [.int 0, .int 0, .int 0, .int 0, .int 0, .int 0, .ref q3])), (q3, .inl (cI, 4, .inl (fun _ => 0))), (q4, .inl (cF, 16, .inr (.inr (.inr (.inr ff_39))))), (q5, .inl (cI, 3, .inl (fun _ => 0))), (q40, .inr (4, [.null, .null, .int 0, .int 0, .ref q42]))] H := hP
  have hD : va_D A [(h0, .inr (7, [.ref p1, .ref p2, .ref q6, .ref q1, .ref q4, .ref q5, .int 0, .int 0, .int 0, .int 0])), (q1, .inr (10, [.int 0, .int 0, .int 0, .int 0, .int 0, .int 0, .ref q3])), (q3, .inl (cI, 4, .inl (fun _ => 0))), (q4, .inl (cF, 16, .inr (.inr (.inr (.inr ff_39))))), (q5, .inl (cI, 3, .inl (fun _ => 0))), (q40, .inr (4, [.null, .null, .int 0, .int 0, .ref q42]))] := hD
  have hin_76 : vp_in 8 16 := by unfold vp_in; decide
  refine va_astq hx hb hK hP hD hS 3 3 5 4 rfl rfl rfl rfl hin_76 dX7_init_76 (fun H locs hP hD hS => ?_)
  have hP : va_P D vwCl [(h0, .inr (7, [.ref p1, .ref p2, .ref q6, .ref q1, .ref q4, .ref q5, .int 0, .int 0, .int 0, .int 0])), (q1, .inr (10, [.int 0, .int 0, .int 0, .int 0, .int 0, .int 0, .ref q3])), (q3, .inl (cI, 4, .inl (fun _ => 0))), (q4, .inl (cF, 16, .inr (.inr (.inr (.inr (va_up ff_39 (8 : Int32).toNatClampNeg (some q40))))))), (q5, .inl (cI, 3, .inl (fun _ => 0))), (q40, .inr (4, [.null, .null, .int 0, .int 0, .ref q42]))] H := hP
  have hD : va_D A [(h0, .inr (7, [.ref p1, .ref p2, .ref q6, .ref q1, .ref q4, .ref q5, .int 0, .int 0, .int 0, .int 0])), (q1, .inr (10, [.int 0, .int 0, .int 0, .int 0, .int 0, .int 0, .ref q3])), (q3, .inl (cI, 4, .inl (fun _ => 0))), (q4, .inl (cF, 16, .inr (.inr (.inr (.inr (va_up ff_39 (8 : Int32).toNatClampNeg (some q40))))))), (q5, .inl (cI, 3, .inl (fun _ => 0))), (q40, .inr (4, [.null, .null, .int 0, .int 0, .ref q42]))] := hD
  have hP := hP.sub (ws' := [(h0, .inr (7, [.ref p1, .ref p2, .ref q6, .ref q1, .ref q4, .ref q5, .int 0, .int 0, .int 0, .int 0])), (q1, .inr (10, [.int 0, .int 0, .int 0, .int 0, .int 0, .int 0, .ref q3])), (q3, .inl (cI, 4, .inl (fun _ => 0))), (q4, .inl (cF, 16, .inr (.inr (.inr (.inr (va_up ff_39 (8 : Int32).toNatClampNeg (some q40))))))), (q5, .inl (cI, 3, .inl (fun _ => 0)))]) [0, 1, 2, 3, 4] rfl
  have hD := hD.sub (ws' := [(h0, .inr (7, [.ref p1, .ref p2, .ref q6, .ref q1, .ref q4, .ref q5, .int 0, .int 0, .int 0, .int 0])), (q1, .inr (10, [.int 0, .int 0, .int 0, .int 0, .int 0, .int 0, .ref q3])), (q3, .inl (cI, 4, .inl (fun _ => 0))), (q4, .inl (cF, 16, .inr (.inr (.inr (.inr (va_up ff_39 (8 : Int32).toNatClampNeg (some q40))))))), (q5, .inl (cI, 3, .inl (fun _ => 0)))]) [0, 1, 2, 3, 4] (by decide) rfl
  generalize (va_up ff_39 (8 : Int32).toNatClampNeg (some q40)) = ff_43 at hP hD
  refine lv_iinc (v := 9) (lv' := [(4, .int 9), (0, .ref h0), (1, .ref p1), (2, .ref p2), (3, .ref p3)]) hx hb dX7_init_77 hl (k := 0) rfl (by decide) (by decide) rfl (fun ls hl => ?_)
  refine lv_goto (tgt := 56) hx hb dX7_init_80 (by decide) ?_
  refine lv_iload hx hb dX7_init_56 (lv_at hl 0 rfl) ?_
  refine lv_bipush (v := 16) hx hb dX7_init_58 (by decide) ?_
  refine lv_icmp_ge (tgt := 83) hx hb dX7_init_60 (by decide) (fun c => absurd c (by decide)) (fun _ => ?_)
  refine lv_aload_n hx hb dX7_init_63 rfl (lv_at hl 1 rfl) ?_
  refine va_get (D := D) (ci := 7) (v := .ref q4) (C := RX7) (T := TX7) (N := 10) hx hb hts (fun _ h => List.mem_cons_of_mem _ (List.mem_append_left _ (List.mem_append_left _ (List.mem_append_right _ h)))) hown hK hP 0 rfl rfl 4 (by decide) (hts (.fieldLink RX7 20 "TemplateForge$Machine" "frames" "[LTemplateForge$Frame;") (List.mem_of_getElem? (i := 14) rfl)) (fun _ h9 => h9) rfl dX7_init_64 ?_
  refine lv_iload hx hb dX7_init_67 (lv_at hl 0 rfl) ?_
  refine va_new (ci := 4) (fs := [.null, .null, .int 0, .int 0, .null]) (C := RX4) (T := TX4) (N := 5) hx hb hts (fun _ h => List.mem_cons_of_mem _ (List.mem_append_right _ h)) tyX4 tyX4_ok hown (hts (.classLink RX7 18 RX4) (List.mem_of_getElem? (i := 13) rfl)) (hts (.instantiable RX4 5) (List.mem_of_getElem? (i := 32) rfl)) (hts (.initialized RX4) (List.mem_of_getElem? (i := 33) rfl)) hK hP hD hS hA rfl (fun j hj => by rcases (show j = 0 ∨ j = 1 ∨ j = 2 ∨ j = 3 ∨ j = 4 by omega) with rfl | rfl | rfl | rfl | rfl <;> rfl) (Nat.le_of_ble_eq_true rfl) (Nat.le_of_ble_eq_true rfl) dX7_init_69 (fun q44 H hP hD hS => ?_)
  have hP : va_P D vwCl [(h0, .inr (7, [.ref p1, .ref p2, .ref q6, .ref q1, .ref q4, .ref q5, .int 0, .int 0, .int 0, .int 0])), (q1, .inr (10, [.int 0, .int 0, .int 0, .int 0, .int 0, .int 0, .ref q3])), (q3, .inl (cI, 4, .inl (fun _ => 0))), (q4, .inl (cF, 16, .inr (.inr (.inr (.inr ff_43))))), (q5, .inl (cI, 3, .inl (fun _ => 0))), (q44, .inr (4, [.null, .null, .int 0, .int 0, .null]))] H := hP
  have hD : va_D A [(h0, .inr (7, [.ref p1, .ref p2, .ref q6, .ref q1, .ref q4, .ref q5, .int 0, .int 0, .int 0, .int 0])), (q1, .inr (10, [.int 0, .int 0, .int 0, .int 0, .int 0, .int 0, .ref q3])), (q3, .inl (cI, 4, .inl (fun _ => 0))), (q4, .inl (cF, 16, .inr (.inr (.inr (.inr ff_43))))), (q5, .inl (cI, 3, .inl (fun _ => 0))), (q44, .inr (4, [.null, .null, .int 0, .int 0, .null]))] := hD
  refine lv_dup hx hb dX7_init_72 rfl ?_
  have hPc := hP.sub (ws' := [(q44, .inr (4, [.null, .null, .int 0, .int 0, .null]))]) [5] rfl
  have hDc := hD.sub (ws' := [(q44, .inr (4, [.null, .null, .int 0, .int 0, .null]))]) [5] (by decide) rfl
  have hFc := va_free (wc := [(q44, .inr (4, [.null, .null, .int 0, .int 0, .null]))]) hD hS hA [5] rfl
  refine va_callv (va_runIN (As := []) (rest := [.ref q44, .int 9, .ref q4]) ⟨hx, hb, hml, hown, hts⟩ (zc_X4_init l D cI cZ cP cF q44 H.size) ⟨va_cnB 0 hts zg_zc_X7_init_zc_X4_init rfl rfl rfl hE.nX7_45 (hts (.initialized RX4) (List.mem_of_getElem? (i := 33) rfl)) (by decide +kernel) ⟨Nat.le_of_ble_eq_true rfl, Nat.le_of_ble_eq_true rfl⟩, rfl, (hts (.instanceMethod yX4_init) (List.mem_of_getElem? (i := 37) rfl))⟩ ⟨zBW, fun U hU hW => ⟨rfl, by rw [hU], by rw [hU]; exact hPc, hE.warm hW, hDc.weaken (fun _ _ _ _ => trivial)⟩⟩ rfl rfl hl.1 rfl (lv_room (Nat.le_of_ble_eq_true rfl)) dX7_init_73 ⟨Nat.le_of_ble_eq_true rfl, Nat.le_of_ble_eq_true rfl⟩) hS (fun q _ h => hFc q h) hFc (fun u t H1 locs ht hvm h_73_45 hB hz1 hk1 hS => ?_)
  obtain ⟨q46, hP1, hD1⟩ := hB
  rw [ht] at hP1
  obtain ⟨hP, hD⟩ := va_join (wr := [(h0, .inr (7, [.ref p1, .ref p2, .ref q6, .ref q1, .ref q4, .ref q5, .int 0, .int 0, .int 0, .int 0])), (q1, .inr (10, [.int 0, .int 0, .int 0, .int 0, .int 0, .int 0, .ref q3])), (q3, .inl (cI, 4, .inl (fun _ => 0))), (q4, .inl (cF, 16, .inr (.inr (.inr (.inr ff_43))))), (q5, .inl (cI, 3, .inl (fun _ => 0)))]) (w1 := [(q44, .inr (4, [.null, .null, .int 0, .int 0, .ref q46]))]) hP hD [5] [0, 1, 2, 3, 4] rfl rfl (by decide) (by decide) hk1 hFc hP1 hD1
  generalize H1 = H at hP hS ⊢
  have hP : va_P D vwCl [(h0, .inr (7, [.ref p1, .ref p2, .ref q6, .ref q1, .ref q4, .ref q5, .int 0, .int 0, .int 0, .int 0])), (q1, .inr (10, [.int 0, .int 0, .int 0, .int 0, .int 0, .int 0, .ref q3])), (q3, .inl (cI, 4, .inl (fun _ => 0))), (q4, .inl (cF, 16, .inr (.inr (.inr (.inr ff_43))))), (q5, .inl (cI, 3, .inl (fun _ => 0))), (q44, .inr (4, [.null, .null, .int 0, .int 0, .ref q46]))] H := hP
  have hD : va_D A [(h0, .inr (7, [.ref p1, .ref p2, .ref q6, .ref q1, .ref q4, .ref q5, .int 0, .int 0, .int 0, .int 0])), (q1, .inr (10, [.int 0, .int 0, .int 0, .int 0, .int 0, .int 0, .ref q3])), (q3, .inl (cI, 4, .inl (fun _ => 0))), (q4, .inl (cF, 16, .inr (.inr (.inr (.inr ff_43))))), (q5, .inl (cI, 3, .inl (fun _ => 0))), (q44, .inr (4, [.null, .null, .int 0, .int 0, .ref q46]))] := hD
  have hin_76 : vp_in 9 16 := by unfold vp_in; decide
  refine va_astq hx hb hK hP hD hS 3 3 5 4 rfl rfl rfl rfl hin_76 dX7_init_76 (fun H locs hP hD hS => ?_)
  have hP : va_P D vwCl [(h0, .inr (7, [.ref p1, .ref p2, .ref q6, .ref q1, .ref q4, .ref q5, .int 0, .int 0, .int 0, .int 0])), (q1, .inr (10, [.int 0, .int 0, .int 0, .int 0, .int 0, .int 0, .ref q3])), (q3, .inl (cI, 4, .inl (fun _ => 0))), (q4, .inl (cF, 16, .inr (.inr (.inr (.inr (va_up ff_43 (9 : Int32).toNatClampNeg (some q44))))))), (q5, .inl (cI, 3, .inl (fun _ => 0))), (q44, .inr (4, [.null, .null, .int 0, .int 0, .ref q46]))] H := hP
  have hD : va_D A [(h0, .inr (7, [.ref p1, .ref p2, .ref q6, .ref q1, .ref q4, .ref q5, .int 0, .int 0, .int 0, .int 0])), (q1, .inr (10, [.int 0, .int 0, .int 0, .int 0, .int 0, .int 0, .ref q3])), (q3, .inl (cI, 4, .inl (fun _ => 0))), (q4, .inl (cF, 16, .inr (.inr (.inr (.inr (va_up ff_43 (9 : Int32).toNatClampNeg (some q44))))))), (q5, .inl (cI, 3, .inl (fun _ => 0))), (q44, .inr (4, [.null, .null, .int 0, .int 0, .ref q46]))] := hD
  have hP := hP.sub (ws' := [(h0, .inr (7, [.ref p1, .ref p2, .ref q6, .ref q1, .ref q4, .ref q5, .int 0, .int 0, .int 0, .int 0])), (q1, .inr (10, [.int 0, .int 0, .int 0, .int 0, .int 0, .int 0, .ref q3])), (q3, .inl (cI, 4, .inl (fun _ => 0))), (q4, .inl (cF, 16, .inr (.inr (.inr (.inr (va_up ff_43 (9 : Int32).toNatClampNeg (some q44))))))), (q5, .inl (cI, 3, .inl (fun _ => 0)))]) [0, 1, 2, 3, 4] rfl
  have hD := hD.sub (ws' := [(h0, .inr (7, [.ref p1, .ref p2, .ref q6, .ref q1, .ref q4, .ref q5, .int 0, .int 0, .int 0, .int 0])), (q1, .inr (10, [.int 0, .int 0, .int 0, .int 0, .int 0, .int 0, .ref q3])), (q3, .inl (cI, 4, .inl (fun _ => 0))), (q4, .inl (cF, 16, .inr (.inr (.inr (.inr (va_up ff_43 (9 : Int32).toNatClampNeg (some q44))))))), (q5, .inl (cI, 3, .inl (fun _ => 0)))]) [0, 1, 2, 3, 4] (by decide) rfl
  generalize (va_up ff_43 (9 : Int32).toNatClampNeg (some q44)) = ff_47 at hP hD
  refine lv_iinc (v := 10) (lv' := [(4, .int 10), (0, .ref h0), (1, .ref p1), (2, .ref p2), (3, .ref p3)]) hx hb dX7_init_77 hl (k := 0) rfl (by decide) (by decide) rfl (fun ls hl => ?_)
  refine lv_goto (tgt := 56) hx hb dX7_init_80 (by decide) ?_
  refine lv_iload hx hb dX7_init_56 (lv_at hl 0 rfl) ?_
  refine lv_bipush (v := 16) hx hb dX7_init_58 (by decide) ?_
  refine lv_icmp_ge (tgt := 83) hx hb dX7_init_60 (by decide) (fun c => absurd c (by decide)) (fun _ => ?_)
  refine lv_aload_n hx hb dX7_init_63 rfl (lv_at hl 1 rfl) ?_
  refine va_get (D := D) (ci := 7) (v := .ref q4) (C := RX7) (T := TX7) (N := 10) hx hb hts (fun _ h => List.mem_cons_of_mem _ (List.mem_append_left _ (List.mem_append_left _ (List.mem_append_right _ h)))) hown hK hP 0 rfl rfl 4 (by decide) (hts (.fieldLink RX7 20 "TemplateForge$Machine" "frames" "[LTemplateForge$Frame;") (List.mem_of_getElem? (i := 14) rfl)) (fun _ h9 => h9) rfl dX7_init_64 ?_
  refine lv_iload hx hb dX7_init_67 (lv_at hl 0 rfl) ?_
  refine va_new (ci := 4) (fs := [.null, .null, .int 0, .int 0, .null]) (C := RX4) (T := TX4) (N := 5) hx hb hts (fun _ h => List.mem_cons_of_mem _ (List.mem_append_right _ h)) tyX4 tyX4_ok hown (hts (.classLink RX7 18 RX4) (List.mem_of_getElem? (i := 13) rfl)) (hts (.instantiable RX4 5) (List.mem_of_getElem? (i := 32) rfl)) (hts (.initialized RX4) (List.mem_of_getElem? (i := 33) rfl)) hK hP hD hS hA rfl (fun j hj => by rcases (show j = 0 ∨ j = 1 ∨ j = 2 ∨ j = 3 ∨ j = 4 by omega) with rfl | rfl | rfl | rfl | rfl <;> rfl) (Nat.le_of_ble_eq_true rfl) (Nat.le_of_ble_eq_true rfl) dX7_init_69 (fun q48 H hP hD hS => ?_)
  have hP : va_P D vwCl [(h0, .inr (7, [.ref p1, .ref p2, .ref q6, .ref q1, .ref q4, .ref q5, .int 0, .int 0, .int 0, .int 0])), (q1, .inr (10, [.int 0, .int 0, .int 0, .int 0, .int 0, .int 0, .ref q3])), (q3, .inl (cI, 4, .inl (fun _ => 0))), (q4, .inl (cF, 16, .inr (.inr (.inr (.inr ff_47))))), (q5, .inl (cI, 3, .inl (fun _ => 0))), (q48, .inr (4, [.null, .null, .int 0, .int 0, .null]))] H := hP
  have hD : va_D A [(h0, .inr (7, [.ref p1, .ref p2, .ref q6, .ref q1, .ref q4, .ref q5, .int 0, .int 0, .int 0, .int 0])), (q1, .inr (10, [.int 0, .int 0, .int 0, .int 0, .int 0, .int 0, .ref q3])), (q3, .inl (cI, 4, .inl (fun _ => 0))), (q4, .inl (cF, 16, .inr (.inr (.inr (.inr ff_47))))), (q5, .inl (cI, 3, .inl (fun _ => 0))), (q48, .inr (4, [.null, .null, .int 0, .int 0, .null]))] := hD
  refine lv_dup hx hb dX7_init_72 rfl ?_
  have hPc := hP.sub (ws' := [(q48, .inr (4, [.null, .null, .int 0, .int 0, .null]))]) [5] rfl
  have hDc := hD.sub (ws' := [(q48, .inr (4, [.null, .null, .int 0, .int 0, .null]))]) [5] (by decide) rfl
  have hFc := va_free (wc := [(q48, .inr (4, [.null, .null, .int 0, .int 0, .null]))]) hD hS hA [5] rfl
  refine va_callv (va_runIN (As := []) (rest := [.ref q48, .int 10, .ref q4]) ⟨hx, hb, hml, hown, hts⟩ (zc_X4_init l D cI cZ cP cF q48 H.size) ⟨va_cnB 0 hts zg_zc_X7_init_zc_X4_init rfl rfl rfl hE.nX7_45 (hts (.initialized RX4) (List.mem_of_getElem? (i := 33) rfl)) (by decide +kernel) ⟨Nat.le_of_ble_eq_true rfl, Nat.le_of_ble_eq_true rfl⟩, rfl, (hts (.instanceMethod yX4_init) (List.mem_of_getElem? (i := 37) rfl))⟩ ⟨zBW, fun U hU hW => ⟨rfl, by rw [hU], by rw [hU]; exact hPc, hE.warm hW, hDc.weaken (fun _ _ _ _ => trivial)⟩⟩ rfl rfl hl.1 rfl (lv_room (Nat.le_of_ble_eq_true rfl)) dX7_init_73 ⟨Nat.le_of_ble_eq_true rfl, Nat.le_of_ble_eq_true rfl⟩) hS (fun q _ h => hFc q h) hFc (fun u t H1 locs ht hvm h_73_49 hB hz1 hk1 hS => ?_)
  obtain ⟨q50, hP1, hD1⟩ := hB
  rw [ht] at hP1
  obtain ⟨hP, hD⟩ := va_join (wr := [(h0, .inr (7, [.ref p1, .ref p2, .ref q6, .ref q1, .ref q4, .ref q5, .int 0, .int 0, .int 0, .int 0])), (q1, .inr (10, [.int 0, .int 0, .int 0, .int 0, .int 0, .int 0, .ref q3])), (q3, .inl (cI, 4, .inl (fun _ => 0))), (q4, .inl (cF, 16, .inr (.inr (.inr (.inr ff_47))))), (q5, .inl (cI, 3, .inl (fun _ => 0)))]) (w1 := [(q48, .inr (4, [.null, .null, .int 0, .int 0, .ref q50]))]) hP hD [5] [0, 1, 2, 3, 4] rfl rfl (by decide) (by decide) hk1 hFc hP1 hD1
  generalize H1 = H at hP hS ⊢
  have hP : va_P D vwCl [(h0, .inr (7, [.ref p1, .ref p2, .ref q6, .ref q1, .ref q4, .ref q5, .int 0, .int 0, .int 0, .int 0])), (q1, .inr (10, [.int 0, .int 0, .int 0, .int 0, .int 0, .int 0, .ref q3])), (q3, .inl (cI, 4, .inl (fun _ => 0))), (q4, .inl (cF, 16, .inr (.inr (.inr (.inr ff_47))))), (q5, .inl (cI, 3, .inl (fun _ => 0))), (q48, .inr (4, [.null, .null, .int 0, .int 0, .ref q50]))] H := hP
  have hD : va_D A [(h0, .inr (7, [.ref p1, .ref p2, .ref q6, .ref q1, .ref q4, .ref q5, .int 0, .int 0, .int 0, .int 0])), (q1, .inr (10, [.int 0, .int 0, .int 0, .int 0, .int 0, .int 0, .ref q3])), (q3, .inl (cI, 4, .inl (fun _ => 0))), (q4, .inl (cF, 16, .inr (.inr (.inr (.inr ff_47))))), (q5, .inl (cI, 3, .inl (fun _ => 0))), (q48, .inr (4, [.null, .null, .int 0, .int 0, .ref q50]))] := hD
  have hin_76 : vp_in 10 16 := by unfold vp_in; decide
  refine va_astq hx hb hK hP hD hS 3 3 5 4 rfl rfl rfl rfl hin_76 dX7_init_76 (fun H locs hP hD hS => ?_)
  have hP : va_P D vwCl [(h0, .inr (7, [.ref p1, .ref p2, .ref q6, .ref q1, .ref q4, .ref q5, .int 0, .int 0, .int 0, .int 0])), (q1, .inr (10, [.int 0, .int 0, .int 0, .int 0, .int 0, .int 0, .ref q3])), (q3, .inl (cI, 4, .inl (fun _ => 0))), (q4, .inl (cF, 16, .inr (.inr (.inr (.inr (va_up ff_47 (10 : Int32).toNatClampNeg (some q48))))))), (q5, .inl (cI, 3, .inl (fun _ => 0))), (q48, .inr (4, [.null, .null, .int 0, .int 0, .ref q50]))] H := hP
  have hD : va_D A [(h0, .inr (7, [.ref p1, .ref p2, .ref q6, .ref q1, .ref q4, .ref q5, .int 0, .int 0, .int 0, .int 0])), (q1, .inr (10, [.int 0, .int 0, .int 0, .int 0, .int 0, .int 0, .ref q3])), (q3, .inl (cI, 4, .inl (fun _ => 0))), (q4, .inl (cF, 16, .inr (.inr (.inr (.inr (va_up ff_47 (10 : Int32).toNatClampNeg (some q48))))))), (q5, .inl (cI, 3, .inl (fun _ => 0))), (q48, .inr (4, [.null, .null, .int 0, .int 0, .ref q50]))] := hD
  have hP := hP.sub (ws' := [(h0, .inr (7, [.ref p1, .ref p2, .ref q6, .ref q1, .ref q4, .ref q5, .int 0, .int 0, .int 0, .int 0])), (q1, .inr (10, [.int 0, .int 0, .int 0, .int 0, .int 0, .int 0, .ref q3])), (q3, .inl (cI, 4, .inl (fun _ => 0))), (q4, .inl (cF, 16, .inr (.inr (.inr (.inr (va_up ff_47 (10 : Int32).toNatClampNeg (some q48))))))), (q5, .inl (cI, 3, .inl (fun _ => 0)))]) [0, 1, 2, 3, 4] rfl
  have hD := hD.sub (ws' := [(h0, .inr (7, [.ref p1, .ref p2, .ref q6, .ref q1, .ref q4, .ref q5, .int 0, .int 0, .int 0, .int 0])), (q1, .inr (10, [.int 0, .int 0, .int 0, .int 0, .int 0, .int 0, .ref q3])), (q3, .inl (cI, 4, .inl (fun _ => 0))), (q4, .inl (cF, 16, .inr (.inr (.inr (.inr (va_up ff_47 (10 : Int32).toNatClampNeg (some q48))))))), (q5, .inl (cI, 3, .inl (fun _ => 0)))]) [0, 1, 2, 3, 4] (by decide) rfl
  generalize (va_up ff_47 (10 : Int32).toNatClampNeg (some q48)) = ff_51 at hP hD
  refine lv_iinc (v := 11) (lv' := [(4, .int 11), (0, .ref h0), (1, .ref p1), (2, .ref p2), (3, .ref p3)]) hx hb dX7_init_77 hl (k := 0) rfl (by decide) (by decide) rfl (fun ls hl => ?_)
  refine lv_goto (tgt := 56) hx hb dX7_init_80 (by decide) ?_
  refine lv_iload hx hb dX7_init_56 (lv_at hl 0 rfl) ?_
  refine lv_bipush (v := 16) hx hb dX7_init_58 (by decide) ?_
  refine lv_icmp_ge (tgt := 83) hx hb dX7_init_60 (by decide) (fun c => absurd c (by decide)) (fun _ => ?_)
  refine lv_aload_n hx hb dX7_init_63 rfl (lv_at hl 1 rfl) ?_
  refine va_get (D := D) (ci := 7) (v := .ref q4) (C := RX7) (T := TX7) (N := 10) hx hb hts (fun _ h => List.mem_cons_of_mem _ (List.mem_append_left _ (List.mem_append_left _ (List.mem_append_right _ h)))) hown hK hP 0 rfl rfl 4 (by decide) (hts (.fieldLink RX7 20 "TemplateForge$Machine" "frames" "[LTemplateForge$Frame;") (List.mem_of_getElem? (i := 14) rfl)) (fun _ h9 => h9) rfl dX7_init_64 ?_
  refine lv_iload hx hb dX7_init_67 (lv_at hl 0 rfl) ?_
  refine va_new (ci := 4) (fs := [.null, .null, .int 0, .int 0, .null]) (C := RX4) (T := TX4) (N := 5) hx hb hts (fun _ h => List.mem_cons_of_mem _ (List.mem_append_right _ h)) tyX4 tyX4_ok hown (hts (.classLink RX7 18 RX4) (List.mem_of_getElem? (i := 13) rfl)) (hts (.instantiable RX4 5) (List.mem_of_getElem? (i := 32) rfl)) (hts (.initialized RX4) (List.mem_of_getElem? (i := 33) rfl)) hK hP hD hS hA rfl (fun j hj => by rcases (show j = 0 ∨ j = 1 ∨ j = 2 ∨ j = 3 ∨ j = 4 by omega) with rfl | rfl | rfl | rfl | rfl <;> rfl) (Nat.le_of_ble_eq_true rfl) (Nat.le_of_ble_eq_true rfl) dX7_init_69 (fun q52 H hP hD hS => ?_)
  have hP : va_P D vwCl [(h0, .inr (7, [.ref p1, .ref p2, .ref q6, .ref q1, .ref q4, .ref q5, .int 0, .int 0, .int 0, .int 0])), (q1, .inr (10, [.int 0, .int 0, .int 0, .int 0, .int 0, .int 0, .ref q3])), (q3, .inl (cI, 4, .inl (fun _ => 0))), (q4, .inl (cF, 16, .inr (.inr (.inr (.inr ff_51))))), (q5, .inl (cI, 3, .inl (fun _ => 0))), (q52, .inr (4, [.null, .null, .int 0, .int 0, .null]))] H := hP
  have hD : va_D A [(h0, .inr (7, [.ref p1, .ref p2, .ref q6, .ref q1, .ref q4, .ref q5, .int 0, .int 0, .int 0, .int 0])), (q1, .inr (10, [.int 0, .int 0, .int 0, .int 0, .int 0, .int 0, .ref q3])), (q3, .inl (cI, 4, .inl (fun _ => 0))), (q4, .inl (cF, 16, .inr (.inr (.inr (.inr ff_51))))), (q5, .inl (cI, 3, .inl (fun _ => 0))), (q52, .inr (4, [.null, .null, .int 0, .int 0, .null]))] := hD
  refine lv_dup hx hb dX7_init_72 rfl ?_
  have hPc := hP.sub (ws' := [(q52, .inr (4, [.null, .null, .int 0, .int 0, .null]))]) [5] rfl
  have hDc := hD.sub (ws' := [(q52, .inr (4, [.null, .null, .int 0, .int 0, .null]))]) [5] (by decide) rfl
  have hFc := va_free (wc := [(q52, .inr (4, [.null, .null, .int 0, .int 0, .null]))]) hD hS hA [5] rfl
  refine va_callv (va_runIN (As := []) (rest := [.ref q52, .int 11, .ref q4]) ⟨hx, hb, hml, hown, hts⟩ (zc_X4_init l D cI cZ cP cF q52 H.size) ⟨va_cnB 0 hts zg_zc_X7_init_zc_X4_init rfl rfl rfl hE.nX7_45 (hts (.initialized RX4) (List.mem_of_getElem? (i := 33) rfl)) (by decide +kernel) ⟨Nat.le_of_ble_eq_true rfl, Nat.le_of_ble_eq_true rfl⟩, rfl, (hts (.instanceMethod yX4_init) (List.mem_of_getElem? (i := 37) rfl))⟩ ⟨zBW, fun U hU hW => ⟨rfl, by rw [hU], by rw [hU]; exact hPc, hE.warm hW, hDc.weaken (fun _ _ _ _ => trivial)⟩⟩ rfl rfl hl.1 rfl (lv_room (Nat.le_of_ble_eq_true rfl)) dX7_init_73 ⟨Nat.le_of_ble_eq_true rfl, Nat.le_of_ble_eq_true rfl⟩) hS (fun q _ h => hFc q h) hFc (fun u t H1 locs ht hvm h_73_53 hB hz1 hk1 hS => ?_)
  obtain ⟨q54, hP1, hD1⟩ := hB
  rw [ht] at hP1
  obtain ⟨hP, hD⟩ := va_join (wr := [(h0, .inr (7, [.ref p1, .ref p2, .ref q6, .ref q1, .ref q4, .ref q5, .int 0, .int 0, .int 0, .int 0])), (q1, .inr (10, [.int 0, .int 0, .int 0, .int 0, .int 0, .int 0, .ref q3])), (q3, .inl (cI, 4, .inl (fun _ => 0))), (q4, .inl (cF, 16, .inr (.inr (.inr (.inr ff_51))))), (q5, .inl (cI, 3, .inl (fun _ => 0)))]) (w1 := [(q52, .inr (4, [.null, .null, .int 0, .int 0, .ref q54]))]) hP hD [5] [0, 1, 2, 3, 4] rfl rfl (by decide) (by decide) hk1 hFc hP1 hD1
  generalize H1 = H at hP hS ⊢
  have hP : va_P D vwCl [(h0, .inr (7, [.ref p1, .ref p2, .ref q6, .ref q1, .ref q4, .ref q5, .int 0, .int 0, .int 0, .int 0])), (q1, .inr (10, [.int 0, .int 0, .int 0, .int 0, .int 0, .int 0, .ref q3])), (q3, .inl (cI, 4, .inl (fun _ => 0))), (q4, .inl (cF, 16, .inr (.inr (.inr (.inr ff_51))))), (q5, .inl (cI, 3, .inl (fun _ => 0))), (q52, .inr (4, [.null, .null, .int 0, .int 0, .ref q54]))] H := hP
  have hD : va_D A [(h0, .inr (7, [.ref p1, .ref p2, .ref q6, .ref q1, .ref q4, .ref q5, .int 0, .int 0, .int 0, .int 0])), (q1, .inr (10, [.int 0, .int 0, .int 0, .int 0, .int 0, .int 0, .ref q3])), (q3, .inl (cI, 4, .inl (fun _ => 0))), (q4, .inl (cF, 16, .inr (.inr (.inr (.inr ff_51))))), (q5, .inl (cI, 3, .inl (fun _ => 0))), (q52, .inr (4, [.null, .null, .int 0, .int 0, .ref q54]))] := hD
  have hin_76 : vp_in 11 16 := by unfold vp_in; decide
  refine va_astq hx hb hK hP hD hS 3 3 5 4 rfl rfl rfl rfl hin_76 dX7_init_76 (fun H locs hP hD hS => ?_)
  have hP : va_P D vwCl [(h0, .inr (7, [.ref p1, .ref p2, .ref q6, .ref q1, .ref q4, .ref q5, .int 0, .int 0, .int 0, .int 0])), (q1, .inr (10, [.int 0, .int 0, .int 0, .int 0, .int 0, .int 0, .ref q3])), (q3, .inl (cI, 4, .inl (fun _ => 0))), (q4, .inl (cF, 16, .inr (.inr (.inr (.inr (va_up ff_51 (11 : Int32).toNatClampNeg (some q52))))))), (q5, .inl (cI, 3, .inl (fun _ => 0))), (q52, .inr (4, [.null, .null, .int 0, .int 0, .ref q54]))] H := hP
  have hD : va_D A [(h0, .inr (7, [.ref p1, .ref p2, .ref q6, .ref q1, .ref q4, .ref q5, .int 0, .int 0, .int 0, .int 0])), (q1, .inr (10, [.int 0, .int 0, .int 0, .int 0, .int 0, .int 0, .ref q3])), (q3, .inl (cI, 4, .inl (fun _ => 0))), (q4, .inl (cF, 16, .inr (.inr (.inr (.inr (va_up ff_51 (11 : Int32).toNatClampNeg (some q52))))))), (q5, .inl (cI, 3, .inl (fun _ => 0))), (q52, .inr (4, [.null, .null, .int 0, .int 0, .ref q54]))] := hD
  have hP := hP.sub (ws' := [(h0, .inr (7, [.ref p1, .ref p2, .ref q6, .ref q1, .ref q4, .ref q5, .int 0, .int 0, .int 0, .int 0])), (q1, .inr (10, [.int 0, .int 0, .int 0, .int 0, .int 0, .int 0, .ref q3])), (q3, .inl (cI, 4, .inl (fun _ => 0))), (q4, .inl (cF, 16, .inr (.inr (.inr (.inr (va_up ff_51 (11 : Int32).toNatClampNeg (some q52))))))), (q5, .inl (cI, 3, .inl (fun _ => 0)))]) [0, 1, 2, 3, 4] rfl
  have hD := hD.sub (ws' := [(h0, .inr (7, [.ref p1, .ref p2, .ref q6, .ref q1, .ref q4, .ref q5, .int 0, .int 0, .int 0, .int 0])), (q1, .inr (10, [.int 0, .int 0, .int 0, .int 0, .int 0, .int 0, .ref q3])), (q3, .inl (cI, 4, .inl (fun _ => 0))), (q4, .inl (cF, 16, .inr (.inr (.inr (.inr (va_up ff_51 (11 : Int32).toNatClampNeg (some q52))))))), (q5, .inl (cI, 3, .inl (fun _ => 0)))]) [0, 1, 2, 3, 4] (by decide) rfl
  generalize (va_up ff_51 (11 : Int32).toNatClampNeg (some q52)) = ff_55 at hP hD
  refine lv_iinc (v := 12) (lv' := [(4, .int 12), (0, .ref h0), (1, .ref p1), (2, .ref p2), (3, .ref p3)]) hx hb dX7_init_77 hl (k := 0) rfl (by decide) (by decide) rfl (fun ls hl => ?_)
  refine lv_goto (tgt := 56) hx hb dX7_init_80 (by decide) ?_
  refine lv_iload hx hb dX7_init_56 (lv_at hl 0 rfl) ?_
  refine lv_bipush (v := 16) hx hb dX7_init_58 (by decide) ?_
  refine lv_icmp_ge (tgt := 83) hx hb dX7_init_60 (by decide) (fun c => absurd c (by decide)) (fun _ => ?_)
  refine lv_aload_n hx hb dX7_init_63 rfl (lv_at hl 1 rfl) ?_
  refine va_get (D := D) (ci := 7) (v := .ref q4) (C := RX7) (T := TX7) (N := 10) hx hb hts (fun _ h => List.mem_cons_of_mem _ (List.mem_append_left _ (List.mem_append_left _ (List.mem_append_right _ h)))) hown hK hP 0 rfl rfl 4 (by decide) (hts (.fieldLink RX7 20 "TemplateForge$Machine" "frames" "[LTemplateForge$Frame;") (List.mem_of_getElem? (i := 14) rfl)) (fun _ h9 => h9) rfl dX7_init_64 ?_
  refine lv_iload hx hb dX7_init_67 (lv_at hl 0 rfl) ?_
  refine va_new (ci := 4) (fs := [.null, .null, .int 0, .int 0, .null]) (C := RX4) (T := TX4) (N := 5) hx hb hts (fun _ h => List.mem_cons_of_mem _ (List.mem_append_right _ h)) tyX4 tyX4_ok hown (hts (.classLink RX7 18 RX4) (List.mem_of_getElem? (i := 13) rfl)) (hts (.instantiable RX4 5) (List.mem_of_getElem? (i := 32) rfl)) (hts (.initialized RX4) (List.mem_of_getElem? (i := 33) rfl)) hK hP hD hS hA rfl (fun j hj => by rcases (show j = 0 ∨ j = 1 ∨ j = 2 ∨ j = 3 ∨ j = 4 by omega) with rfl | rfl | rfl | rfl | rfl <;> rfl) (Nat.le_of_ble_eq_true rfl) (Nat.le_of_ble_eq_true rfl) dX7_init_69 (fun q56 H hP hD hS => ?_)
  have hP : va_P D vwCl [(h0, .inr (7, [.ref p1, .ref p2, .ref q6, .ref q1, .ref q4, .ref q5, .int 0, .int 0, .int 0, .int 0])), (q1, .inr (10, [.int 0, .int 0, .int 0, .int 0, .int 0, .int 0, .ref q3])), (q3, .inl (cI, 4, .inl (fun _ => 0))), (q4, .inl (cF, 16, .inr (.inr (.inr (.inr ff_55))))), (q5, .inl (cI, 3, .inl (fun _ => 0))), (q56, .inr (4, [.null, .null, .int 0, .int 0, .null]))] H := hP
  have hD : va_D A [(h0, .inr (7, [.ref p1, .ref p2, .ref q6, .ref q1, .ref q4, .ref q5, .int 0, .int 0, .int 0, .int 0])), (q1, .inr (10, [.int 0, .int 0, .int 0, .int 0, .int 0, .int 0, .ref q3])), (q3, .inl (cI, 4, .inl (fun _ => 0))), (q4, .inl (cF, 16, .inr (.inr (.inr (.inr ff_55))))), (q5, .inl (cI, 3, .inl (fun _ => 0))), (q56, .inr (4, [.null, .null, .int 0, .int 0, .null]))] := hD
  refine lv_dup hx hb dX7_init_72 rfl ?_
  have hPc := hP.sub (ws' := [(q56, .inr (4, [.null, .null, .int 0, .int 0, .null]))]) [5] rfl
  have hDc := hD.sub (ws' := [(q56, .inr (4, [.null, .null, .int 0, .int 0, .null]))]) [5] (by decide) rfl
  have hFc := va_free (wc := [(q56, .inr (4, [.null, .null, .int 0, .int 0, .null]))]) hD hS hA [5] rfl
  refine va_callv (va_runIN (As := []) (rest := [.ref q56, .int 12, .ref q4]) ⟨hx, hb, hml, hown, hts⟩ (zc_X4_init l D cI cZ cP cF q56 H.size) ⟨va_cnB 0 hts zg_zc_X7_init_zc_X4_init rfl rfl rfl hE.nX7_45 (hts (.initialized RX4) (List.mem_of_getElem? (i := 33) rfl)) (by decide +kernel) ⟨Nat.le_of_ble_eq_true rfl, Nat.le_of_ble_eq_true rfl⟩, rfl, (hts (.instanceMethod yX4_init) (List.mem_of_getElem? (i := 37) rfl))⟩ ⟨zBW, fun U hU hW => ⟨rfl, by rw [hU], by rw [hU]; exact hPc, hE.warm hW, hDc.weaken (fun _ _ _ _ => trivial)⟩⟩ rfl rfl hl.1 rfl (lv_room (Nat.le_of_ble_eq_true rfl)) dX7_init_73 ⟨Nat.le_of_ble_eq_true rfl, Nat.le_of_ble_eq_true rfl⟩) hS (fun q _ h => hFc q h) hFc (fun u t H1 locs ht hvm h_73_57 hB hz1 hk1 hS => ?_)
  obtain ⟨q58, hP1, hD1⟩ := hB
  rw [ht] at hP1
  obtain ⟨hP, hD⟩ := va_join (wr := [(h0, .inr (7, [.ref p1, .ref p2, .ref q6, .ref q1, .ref q4, .ref q5, .int 0, .int 0, .int 0, .int 0])), (q1, .inr (10, [.int 0, .int 0, .int 0, .int 0, .int 0, .int 0, .ref q3])), (q3, .inl (cI, 4, .inl (fun _ => 0))), (q4, .inl (cF, 16, .inr (.inr (.inr (.inr ff_55))))), (q5, .inl (cI, 3, .inl (fun _ => 0)))]) (w1 := [(q56, .inr (4, [.null, .null, .int 0, .int 0, .ref q58]))]) hP hD [5] [0, 1, 2, 3, 4] rfl rfl (by decide) (by decide) hk1 hFc hP1 hD1
  generalize H1 = H at hP hS ⊢
  have hP : va_P D vwCl [(h0, .inr (7, [.ref p1, .ref p2, .ref q6, .ref q1, .ref q4, .ref q5, .int 0, .int 0, .int 0, .int 0])), (q1, .inr (10, [.int 0, .int 0, .int 0, .int 0, .int 0, .int 0, .ref q3])), (q3, .inl (cI, 4, .inl (fun _ => 0))), (q4, .inl (cF, 16, .inr (.inr (.inr (.inr ff_55))))), (q5, .inl (cI, 3, .inl (fun _ => 0))), (q56, .inr (4, [.null, .null, .int 0, .int 0, .ref q58]))] H := hP
  have hD : va_D A [(h0, .inr (7, [.ref p1, .ref p2, .ref q6, .ref q1, .ref q4, .ref q5, .int 0, .int 0, .int 0, .int 0])), (q1, .inr (10, [.int 0, .int 0, .int 0, .int 0, .int 0, .int 0, .ref q3])), (q3, .inl (cI, 4, .inl (fun _ => 0))), (q4, .inl (cF, 16, .inr (.inr (.inr (.inr ff_55))))), (q5, .inl (cI, 3, .inl (fun _ => 0))), (q56, .inr (4, [.null, .null, .int 0, .int 0, .ref q58]))] := hD
  have hin_76 : vp_in 12 16 := by unfold vp_in; decide
  refine va_astq hx hb hK hP hD hS 3 3 5 4 rfl rfl rfl rfl hin_76 dX7_init_76 (fun H locs hP hD hS => ?_)
  have hP : va_P D vwCl [(h0, .inr (7, [.ref p1, .ref p2, .ref q6, .ref q1, .ref q4, .ref q5, .int 0, .int 0, .int 0, .int 0])), (q1, .inr (10, [.int 0, .int 0, .int 0, .int 0, .int 0, .int 0, .ref q3])), (q3, .inl (cI, 4, .inl (fun _ => 0))), (q4, .inl (cF, 16, .inr (.inr (.inr (.inr (va_up ff_55 (12 : Int32).toNatClampNeg (some q56))))))), (q5, .inl (cI, 3, .inl (fun _ => 0))), (q56, .inr (4, [.null, .null, .int 0, .int 0, .ref q58]))] H := hP
  have hD : va_D A [(h0, .inr (7, [.ref p1, .ref p2, .ref q6, .ref q1, .ref q4, .ref q5, .int 0, .int 0, .int 0, .int 0])), (q1, .inr (10, [.int 0, .int 0, .int 0, .int 0, .int 0, .int 0, .ref q3])), (q3, .inl (cI, 4, .inl (fun _ => 0))), (q4, .inl (cF, 16, .inr (.inr (.inr (.inr (va_up ff_55 (12 : Int32).toNatClampNeg (some q56))))))), (q5, .inl (cI, 3, .inl (fun _ => 0))), (q56, .inr (4, [.null, .null, .int 0, .int 0, .ref q58]))] := hD
  have hP := hP.sub (ws' := [(h0, .inr (7, [.ref p1, .ref p2, .ref q6, .ref q1, .ref q4, .ref q5, .int 0, .int 0, .int 0, .int 0])), (q1, .inr (10, [.int 0, .int 0, .int 0, .int 0, .int 0, .int 0, .ref q3])), (q3, .inl (cI, 4, .inl (fun _ => 0))), (q4, .inl (cF, 16, .inr (.inr (.inr (.inr (va_up ff_55 (12 : Int32).toNatClampNeg (some q56))))))), (q5, .inl (cI, 3, .inl (fun _ => 0)))]) [0, 1, 2, 3, 4] rfl
  have hD := hD.sub (ws' := [(h0, .inr (7, [.ref p1, .ref p2, .ref q6, .ref q1, .ref q4, .ref q5, .int 0, .int 0, .int 0, .int 0])), (q1, .inr (10, [.int 0, .int 0, .int 0, .int 0, .int 0, .int 0, .ref q3])), (q3, .inl (cI, 4, .inl (fun _ => 0))), (q4, .inl (cF, 16, .inr (.inr (.inr (.inr (va_up ff_55 (12 : Int32).toNatClampNeg (some q56))))))), (q5, .inl (cI, 3, .inl (fun _ => 0)))]) [0, 1, 2, 3, 4] (by decide) rfl
  generalize (va_up ff_55 (12 : Int32).toNatClampNeg (some q56)) = ff_59 at hP hD
  refine lv_iinc (v := 13) (lv' := [(4, .int 13), (0, .ref h0), (1, .ref p1), (2, .ref p2), (3, .ref p3)]) hx hb dX7_init_77 hl (k := 0) rfl (by decide) (by decide) rfl (fun ls hl => ?_)
  refine lv_goto (tgt := 56) hx hb dX7_init_80 (by decide) ?_
  refine lv_iload hx hb dX7_init_56 (lv_at hl 0 rfl) ?_
  refine lv_bipush (v := 16) hx hb dX7_init_58 (by decide) ?_
  refine lv_icmp_ge (tgt := 83) hx hb dX7_init_60 (by decide) (fun c => absurd c (by decide)) (fun _ => ?_)
  refine lv_aload_n hx hb dX7_init_63 rfl (lv_at hl 1 rfl) ?_
  refine va_get (D := D) (ci := 7) (v := .ref q4) (C := RX7) (T := TX7) (N := 10) hx hb hts (fun _ h => List.mem_cons_of_mem _ (List.mem_append_left _ (List.mem_append_left _ (List.mem_append_right _ h)))) hown hK hP 0 rfl rfl 4 (by decide) (hts (.fieldLink RX7 20 "TemplateForge$Machine" "frames" "[LTemplateForge$Frame;") (List.mem_of_getElem? (i := 14) rfl)) (fun _ h9 => h9) rfl dX7_init_64 ?_
  refine lv_iload hx hb dX7_init_67 (lv_at hl 0 rfl) ?_
  refine va_new (ci := 4) (fs := [.null, .null, .int 0, .int 0, .null]) (C := RX4) (T := TX4) (N := 5) hx hb hts (fun _ h => List.mem_cons_of_mem _ (List.mem_append_right _ h)) tyX4 tyX4_ok hown (hts (.classLink RX7 18 RX4) (List.mem_of_getElem? (i := 13) rfl)) (hts (.instantiable RX4 5) (List.mem_of_getElem? (i := 32) rfl)) (hts (.initialized RX4) (List.mem_of_getElem? (i := 33) rfl)) hK hP hD hS hA rfl (fun j hj => by rcases (show j = 0 ∨ j = 1 ∨ j = 2 ∨ j = 3 ∨ j = 4 by omega) with rfl | rfl | rfl | rfl | rfl <;> rfl) (Nat.le_of_ble_eq_true rfl) (Nat.le_of_ble_eq_true rfl) dX7_init_69 (fun q60 H hP hD hS => ?_)
  have hP : va_P D vwCl [(h0, .inr (7, [.ref p1, .ref p2, .ref q6, .ref q1, .ref q4, .ref q5, .int 0, .int 0, .int 0, .int 0])), (q1, .inr (10, [.int 0, .int 0, .int 0, .int 0, .int 0, .int 0, .ref q3])), (q3, .inl (cI, 4, .inl (fun _ => 0))), (q4, .inl (cF, 16, .inr (.inr (.inr (.inr ff_59))))), (q5, .inl (cI, 3, .inl (fun _ => 0))), (q60, .inr (4, [.null, .null, .int 0, .int 0, .null]))] H := hP
  have hD : va_D A [(h0, .inr (7, [.ref p1, .ref p2, .ref q6, .ref q1, .ref q4, .ref q5, .int 0, .int 0, .int 0, .int 0])), (q1, .inr (10, [.int 0, .int 0, .int 0, .int 0, .int 0, .int 0, .ref q3])), (q3, .inl (cI, 4, .inl (fun _ => 0))), (q4, .inl (cF, 16, .inr (.inr (.inr (.inr ff_59))))), (q5, .inl (cI, 3, .inl (fun _ => 0))), (q60, .inr (4, [.null, .null, .int 0, .int 0, .null]))] := hD
  refine lv_dup hx hb dX7_init_72 rfl ?_
  have hPc := hP.sub (ws' := [(q60, .inr (4, [.null, .null, .int 0, .int 0, .null]))]) [5] rfl
  have hDc := hD.sub (ws' := [(q60, .inr (4, [.null, .null, .int 0, .int 0, .null]))]) [5] (by decide) rfl
  have hFc := va_free (wc := [(q60, .inr (4, [.null, .null, .int 0, .int 0, .null]))]) hD hS hA [5] rfl
  refine va_callv (va_runIN (As := []) (rest := [.ref q60, .int 13, .ref q4]) ⟨hx, hb, hml, hown, hts⟩ (zc_X4_init l D cI cZ cP cF q60 H.size) ⟨va_cnB 0 hts zg_zc_X7_init_zc_X4_init rfl rfl rfl hE.nX7_45 (hts (.initialized RX4) (List.mem_of_getElem? (i := 33) rfl)) (by decide +kernel) ⟨Nat.le_of_ble_eq_true rfl, Nat.le_of_ble_eq_true rfl⟩, rfl, (hts (.instanceMethod yX4_init) (List.mem_of_getElem? (i := 37) rfl))⟩ ⟨zBW, fun U hU hW => ⟨rfl, by rw [hU], by rw [hU]; exact hPc, hE.warm hW, hDc.weaken (fun _ _ _ _ => trivial)⟩⟩ rfl rfl hl.1 rfl (lv_room (Nat.le_of_ble_eq_true rfl)) dX7_init_73 ⟨Nat.le_of_ble_eq_true rfl, Nat.le_of_ble_eq_true rfl⟩) hS (fun q _ h => hFc q h) hFc (fun u t H1 locs ht hvm h_73_61 hB hz1 hk1 hS => ?_)
  obtain ⟨q62, hP1, hD1⟩ := hB
  rw [ht] at hP1
  obtain ⟨hP, hD⟩ := va_join (wr := [(h0, .inr (7, [.ref p1, .ref p2, .ref q6, .ref q1, .ref q4, .ref q5, .int 0, .int 0, .int 0, .int 0])), (q1, .inr (10, [.int 0, .int 0, .int 0, .int 0, .int 0, .int 0, .ref q3])), (q3, .inl (cI, 4, .inl (fun _ => 0))), (q4, .inl (cF, 16, .inr (.inr (.inr (.inr ff_59))))), (q5, .inl (cI, 3, .inl (fun _ => 0)))]) (w1 := [(q60, .inr (4, [.null, .null, .int 0, .int 0, .ref q62]))]) hP hD [5] [0, 1, 2, 3, 4] rfl rfl (by decide) (by decide) hk1 hFc hP1 hD1
  generalize H1 = H at hP hS ⊢
  have hP : va_P D vwCl [(h0, .inr (7, [.ref p1, .ref p2, .ref q6, .ref q1, .ref q4, .ref q5, .int 0, .int 0, .int 0, .int 0])), (q1, .inr (10, [.int 0, .int 0, .int 0, .int 0, .int 0, .int 0, .ref q3])), (q3, .inl (cI, 4, .inl (fun _ => 0))), (q4, .inl (cF, 16, .inr (.inr (.inr (.inr ff_59))))), (q5, .inl (cI, 3, .inl (fun _ => 0))), (q60, .inr (4, [.null, .null, .int 0, .int 0, .ref q62]))] H := hP
  have hD : va_D A [(h0, .inr (7, [.ref p1, .ref p2, .ref q6, .ref q1, .ref q4, .ref q5, .int 0, .int 0, .int 0, .int 0])), (q1, .inr (10, [.int 0, .int 0, .int 0, .int 0, .int 0, .int 0, .ref q3])), (q3, .inl (cI, 4, .inl (fun _ => 0))), (q4, .inl (cF, 16, .inr (.inr (.inr (.inr ff_59))))), (q5, .inl (cI, 3, .inl (fun _ => 0))), (q60, .inr (4, [.null, .null, .int 0, .int 0, .ref q62]))] := hD
  have hin_76 : vp_in 13 16 := by unfold vp_in; decide
  refine va_astq hx hb hK hP hD hS 3 3 5 4 rfl rfl rfl rfl hin_76 dX7_init_76 (fun H locs hP hD hS => ?_)
  have hP : va_P D vwCl [(h0, .inr (7, [.ref p1, .ref p2, .ref q6, .ref q1, .ref q4, .ref q5, .int 0, .int 0, .int 0, .int 0])), (q1, .inr (10, [.int 0, .int 0, .int 0, .int 0, .int 0, .int 0, .ref q3])), (q3, .inl (cI, 4, .inl (fun _ => 0))), (q4, .inl (cF, 16, .inr (.inr (.inr (.inr (va_up ff_59 (13 : Int32).toNatClampNeg (some q60))))))), (q5, .inl (cI, 3, .inl (fun _ => 0))), (q60, .inr (4, [.null, .null, .int 0, .int 0, .ref q62]))] H := hP
  have hD : va_D A [(h0, .inr (7, [.ref p1, .ref p2, .ref q6, .ref q1, .ref q4, .ref q5, .int 0, .int 0, .int 0, .int 0])), (q1, .inr (10, [.int 0, .int 0, .int 0, .int 0, .int 0, .int 0, .ref q3])), (q3, .inl (cI, 4, .inl (fun _ => 0))), (q4, .inl (cF, 16, .inr (.inr (.inr (.inr (va_up ff_59 (13 : Int32).toNatClampNeg (some q60))))))), (q5, .inl (cI, 3, .inl (fun _ => 0))), (q60, .inr (4, [.null, .null, .int 0, .int 0, .ref q62]))] := hD
  have hP := hP.sub (ws' := [(h0, .inr (7, [.ref p1, .ref p2, .ref q6, .ref q1, .ref q4, .ref q5, .int 0, .int 0, .int 0, .int 0])), (q1, .inr (10, [.int 0, .int 0, .int 0, .int 0, .int 0, .int 0, .ref q3])), (q3, .inl (cI, 4, .inl (fun _ => 0))), (q4, .inl (cF, 16, .inr (.inr (.inr (.inr (va_up ff_59 (13 : Int32).toNatClampNeg (some q60))))))), (q5, .inl (cI, 3, .inl (fun _ => 0)))]) [0, 1, 2, 3, 4] rfl
  have hD := hD.sub (ws' := [(h0, .inr (7, [.ref p1, .ref p2, .ref q6, .ref q1, .ref q4, .ref q5, .int 0, .int 0, .int 0, .int 0])), (q1, .inr (10, [.int 0, .int 0, .int 0, .int 0, .int 0, .int 0, .ref q3])), (q3, .inl (cI, 4, .inl (fun _ => 0))), (q4, .inl (cF, 16, .inr (.inr (.inr (.inr (va_up ff_59 (13 : Int32).toNatClampNeg (some q60))))))), (q5, .inl (cI, 3, .inl (fun _ => 0)))]) [0, 1, 2, 3, 4] (by decide) rfl
  generalize (va_up ff_59 (13 : Int32).toNatClampNeg (some q60)) = ff_63 at hP hD
  refine lv_iinc (v := 14) (lv' := [(4, .int 14), (0, .ref h0), (1, .ref p1), (2, .ref p2), (3, .ref p3)]) hx hb dX7_init_77 hl (k := 0) rfl (by decide) (by decide) rfl (fun ls hl => ?_)
  refine lv_goto (tgt := 56) hx hb dX7_init_80 (by decide) ?_
  refine lv_iload hx hb dX7_init_56 (lv_at hl 0 rfl) ?_
  refine lv_bipush (v := 16) hx hb dX7_init_58 (by decide) ?_
  refine lv_icmp_ge (tgt := 83) hx hb dX7_init_60 (by decide) (fun c => absurd c (by decide)) (fun _ => ?_)
  refine lv_aload_n hx hb dX7_init_63 rfl (lv_at hl 1 rfl) ?_
  refine va_get (D := D) (ci := 7) (v := .ref q4) (C := RX7) (T := TX7) (N := 10) hx hb hts (fun _ h => List.mem_cons_of_mem _ (List.mem_append_left _ (List.mem_append_left _ (List.mem_append_right _ h)))) hown hK hP 0 rfl rfl 4 (by decide) (hts (.fieldLink RX7 20 "TemplateForge$Machine" "frames" "[LTemplateForge$Frame;") (List.mem_of_getElem? (i := 14) rfl)) (fun _ h9 => h9) rfl dX7_init_64 ?_
  refine lv_iload hx hb dX7_init_67 (lv_at hl 0 rfl) ?_
  refine va_new (ci := 4) (fs := [.null, .null, .int 0, .int 0, .null]) (C := RX4) (T := TX4) (N := 5) hx hb hts (fun _ h => List.mem_cons_of_mem _ (List.mem_append_right _ h)) tyX4 tyX4_ok hown (hts (.classLink RX7 18 RX4) (List.mem_of_getElem? (i := 13) rfl)) (hts (.instantiable RX4 5) (List.mem_of_getElem? (i := 32) rfl)) (hts (.initialized RX4) (List.mem_of_getElem? (i := 33) rfl)) hK hP hD hS hA rfl (fun j hj => by rcases (show j = 0 ∨ j = 1 ∨ j = 2 ∨ j = 3 ∨ j = 4 by omega) with rfl | rfl | rfl | rfl | rfl <;> rfl) (Nat.le_of_ble_eq_true rfl) (Nat.le_of_ble_eq_true rfl) dX7_init_69 (fun q64 H hP hD hS => ?_)
  have hP : va_P D vwCl [(h0, .inr (7, [.ref p1, .ref p2, .ref q6, .ref q1, .ref q4, .ref q5, .int 0, .int 0, .int 0, .int 0])), (q1, .inr (10, [.int 0, .int 0, .int 0, .int 0, .int 0, .int 0, .ref q3])), (q3, .inl (cI, 4, .inl (fun _ => 0))), (q4, .inl (cF, 16, .inr (.inr (.inr (.inr ff_63))))), (q5, .inl (cI, 3, .inl (fun _ => 0))), (q64, .inr (4, [.null, .null, .int 0, .int 0, .null]))] H := hP
  have hD : va_D A [(h0, .inr (7, [.ref p1, .ref p2, .ref q6, .ref q1, .ref q4, .ref q5, .int 0, .int 0, .int 0, .int 0])), (q1, .inr (10, [.int 0, .int 0, .int 0, .int 0, .int 0, .int 0, .ref q3])), (q3, .inl (cI, 4, .inl (fun _ => 0))), (q4, .inl (cF, 16, .inr (.inr (.inr (.inr ff_63))))), (q5, .inl (cI, 3, .inl (fun _ => 0))), (q64, .inr (4, [.null, .null, .int 0, .int 0, .null]))] := hD
  refine lv_dup hx hb dX7_init_72 rfl ?_
  have hPc := hP.sub (ws' := [(q64, .inr (4, [.null, .null, .int 0, .int 0, .null]))]) [5] rfl
  have hDc := hD.sub (ws' := [(q64, .inr (4, [.null, .null, .int 0, .int 0, .null]))]) [5] (by decide) rfl
  have hFc := va_free (wc := [(q64, .inr (4, [.null, .null, .int 0, .int 0, .null]))]) hD hS hA [5] rfl
  refine va_callv (va_runIN (As := []) (rest := [.ref q64, .int 14, .ref q4]) ⟨hx, hb, hml, hown, hts⟩ (zc_X4_init l D cI cZ cP cF q64 H.size) ⟨va_cnB 0 hts zg_zc_X7_init_zc_X4_init rfl rfl rfl hE.nX7_45 (hts (.initialized RX4) (List.mem_of_getElem? (i := 33) rfl)) (by decide +kernel) ⟨Nat.le_of_ble_eq_true rfl, Nat.le_of_ble_eq_true rfl⟩, rfl, (hts (.instanceMethod yX4_init) (List.mem_of_getElem? (i := 37) rfl))⟩ ⟨zBW, fun U hU hW => ⟨rfl, by rw [hU], by rw [hU]; exact hPc, hE.warm hW, hDc.weaken (fun _ _ _ _ => trivial)⟩⟩ rfl rfl hl.1 rfl (lv_room (Nat.le_of_ble_eq_true rfl)) dX7_init_73 ⟨Nat.le_of_ble_eq_true rfl, Nat.le_of_ble_eq_true rfl⟩) hS (fun q _ h => hFc q h) hFc (fun u t H1 locs ht hvm h_73_65 hB hz1 hk1 hS => ?_)
  obtain ⟨q66, hP1, hD1⟩ := hB
  rw [ht] at hP1
  obtain ⟨hP, hD⟩ := va_join (wr := [(h0, .inr (7, [.ref p1, .ref p2, .ref q6, .ref q1, .ref q4, .ref q5, .int 0, .int 0, .int 0, .int 0])), (q1, .inr (10, [.int 0, .int 0, .int 0, .int 0, .int 0, .int 0, .ref q3])), (q3, .inl (cI, 4, .inl (fun _ => 0))), (q4, .inl (cF, 16, .inr (.inr (.inr (.inr ff_63))))), (q5, .inl (cI, 3, .inl (fun _ => 0)))]) (w1 := [(q64, .inr (4, [.null, .null, .int 0, .int 0, .ref q66]))]) hP hD [5] [0, 1, 2, 3, 4] rfl rfl (by decide) (by decide) hk1 hFc hP1 hD1
  generalize H1 = H at hP hS ⊢
  have hP : va_P D vwCl [(h0, .inr (7, [.ref p1, .ref p2, .ref q6, .ref q1, .ref q4, .ref q5, .int 0, .int 0, .int 0, .int 0])), (q1, .inr (10, [.int 0, .int 0, .int 0, .int 0, .int 0, .int 0, .ref q3])), (q3, .inl (cI, 4, .inl (fun _ => 0))), (q4, .inl (cF, 16, .inr (.inr (.inr (.inr ff_63))))), (q5, .inl (cI, 3, .inl (fun _ => 0))), (q64, .inr (4, [.null, .null, .int 0, .int 0, .ref q66]))] H := hP
  have hD : va_D A [(h0, .inr (7, [.ref p1, .ref p2, .ref q6, .ref q1, .ref q4, .ref q5, .int 0, .int 0, .int 0, .int 0])), (q1, .inr (10, [.int 0, .int 0, .int 0, .int 0, .int 0, .int 0, .ref q3])), (q3, .inl (cI, 4, .inl (fun _ => 0))), (q4, .inl (cF, 16, .inr (.inr (.inr (.inr ff_63))))), (q5, .inl (cI, 3, .inl (fun _ => 0))), (q64, .inr (4, [.null, .null, .int 0, .int 0, .ref q66]))] := hD
  have hin_76 : vp_in 14 16 := by unfold vp_in; decide
  refine va_astq hx hb hK hP hD hS 3 3 5 4 rfl rfl rfl rfl hin_76 dX7_init_76 (fun H locs hP hD hS => ?_)
  have hP : va_P D vwCl [(h0, .inr (7, [.ref p1, .ref p2, .ref q6, .ref q1, .ref q4, .ref q5, .int 0, .int 0, .int 0, .int 0])), (q1, .inr (10, [.int 0, .int 0, .int 0, .int 0, .int 0, .int 0, .ref q3])), (q3, .inl (cI, 4, .inl (fun _ => 0))), (q4, .inl (cF, 16, .inr (.inr (.inr (.inr (va_up ff_63 (14 : Int32).toNatClampNeg (some q64))))))), (q5, .inl (cI, 3, .inl (fun _ => 0))), (q64, .inr (4, [.null, .null, .int 0, .int 0, .ref q66]))] H := hP
  have hD : va_D A [(h0, .inr (7, [.ref p1, .ref p2, .ref q6, .ref q1, .ref q4, .ref q5, .int 0, .int 0, .int 0, .int 0])), (q1, .inr (10, [.int 0, .int 0, .int 0, .int 0, .int 0, .int 0, .ref q3])), (q3, .inl (cI, 4, .inl (fun _ => 0))), (q4, .inl (cF, 16, .inr (.inr (.inr (.inr (va_up ff_63 (14 : Int32).toNatClampNeg (some q64))))))), (q5, .inl (cI, 3, .inl (fun _ => 0))), (q64, .inr (4, [.null, .null, .int 0, .int 0, .ref q66]))] := hD
  have hP := hP.sub (ws' := [(h0, .inr (7, [.ref p1, .ref p2, .ref q6, .ref q1, .ref q4, .ref q5, .int 0, .int 0, .int 0, .int 0])), (q1, .inr (10, [.int 0, .int 0, .int 0, .int 0, .int 0, .int 0, .ref q3])), (q3, .inl (cI, 4, .inl (fun _ => 0))), (q4, .inl (cF, 16, .inr (.inr (.inr (.inr (va_up ff_63 (14 : Int32).toNatClampNeg (some q64))))))), (q5, .inl (cI, 3, .inl (fun _ => 0)))]) [0, 1, 2, 3, 4] rfl
  have hD := hD.sub (ws' := [(h0, .inr (7, [.ref p1, .ref p2, .ref q6, .ref q1, .ref q4, .ref q5, .int 0, .int 0, .int 0, .int 0])), (q1, .inr (10, [.int 0, .int 0, .int 0, .int 0, .int 0, .int 0, .ref q3])), (q3, .inl (cI, 4, .inl (fun _ => 0))), (q4, .inl (cF, 16, .inr (.inr (.inr (.inr (va_up ff_63 (14 : Int32).toNatClampNeg (some q64))))))), (q5, .inl (cI, 3, .inl (fun _ => 0)))]) [0, 1, 2, 3, 4] (by decide) rfl
  generalize (va_up ff_63 (14 : Int32).toNatClampNeg (some q64)) = ff_67 at hP hD
  refine lv_iinc (v := 15) (lv' := [(4, .int 15), (0, .ref h0), (1, .ref p1), (2, .ref p2), (3, .ref p3)]) hx hb dX7_init_77 hl (k := 0) rfl (by decide) (by decide) rfl (fun ls hl => ?_)
  refine lv_goto (tgt := 56) hx hb dX7_init_80 (by decide) ?_
  refine lv_iload hx hb dX7_init_56 (lv_at hl 0 rfl) ?_
  refine lv_bipush (v := 16) hx hb dX7_init_58 (by decide) ?_
  refine lv_icmp_ge (tgt := 83) hx hb dX7_init_60 (by decide) (fun c => absurd c (by decide)) (fun _ => ?_)
  refine lv_aload_n hx hb dX7_init_63 rfl (lv_at hl 1 rfl) ?_
  refine va_get (D := D) (ci := 7) (v := .ref q4) (C := RX7) (T := TX7) (N := 10) hx hb hts (fun _ h => List.mem_cons_of_mem _ (List.mem_append_left _ (List.mem_append_left _ (List.mem_append_right _ h)))) hown hK hP 0 rfl rfl 4 (by decide) (hts (.fieldLink RX7 20 "TemplateForge$Machine" "frames" "[LTemplateForge$Frame;") (List.mem_of_getElem? (i := 14) rfl)) (fun _ h9 => h9) rfl dX7_init_64 ?_
  refine lv_iload hx hb dX7_init_67 (lv_at hl 0 rfl) ?_
  refine va_new (ci := 4) (fs := [.null, .null, .int 0, .int 0, .null]) (C := RX4) (T := TX4) (N := 5) hx hb hts (fun _ h => List.mem_cons_of_mem _ (List.mem_append_right _ h)) tyX4 tyX4_ok hown (hts (.classLink RX7 18 RX4) (List.mem_of_getElem? (i := 13) rfl)) (hts (.instantiable RX4 5) (List.mem_of_getElem? (i := 32) rfl)) (hts (.initialized RX4) (List.mem_of_getElem? (i := 33) rfl)) hK hP hD hS hA rfl (fun j hj => by rcases (show j = 0 ∨ j = 1 ∨ j = 2 ∨ j = 3 ∨ j = 4 by omega) with rfl | rfl | rfl | rfl | rfl <;> rfl) (Nat.le_of_ble_eq_true rfl) (Nat.le_of_ble_eq_true rfl) dX7_init_69 (fun q68 H hP hD hS => ?_)
  have hP : va_P D vwCl [(h0, .inr (7, [.ref p1, .ref p2, .ref q6, .ref q1, .ref q4, .ref q5, .int 0, .int 0, .int 0, .int 0])), (q1, .inr (10, [.int 0, .int 0, .int 0, .int 0, .int 0, .int 0, .ref q3])), (q3, .inl (cI, 4, .inl (fun _ => 0))), (q4, .inl (cF, 16, .inr (.inr (.inr (.inr ff_67))))), (q5, .inl (cI, 3, .inl (fun _ => 0))), (q68, .inr (4, [.null, .null, .int 0, .int 0, .null]))] H := hP
  have hD : va_D A [(h0, .inr (7, [.ref p1, .ref p2, .ref q6, .ref q1, .ref q4, .ref q5, .int 0, .int 0, .int 0, .int 0])), (q1, .inr (10, [.int 0, .int 0, .int 0, .int 0, .int 0, .int 0, .ref q3])), (q3, .inl (cI, 4, .inl (fun _ => 0))), (q4, .inl (cF, 16, .inr (.inr (.inr (.inr ff_67))))), (q5, .inl (cI, 3, .inl (fun _ => 0))), (q68, .inr (4, [.null, .null, .int 0, .int 0, .null]))] := hD
  refine lv_dup hx hb dX7_init_72 rfl ?_
  have hPc := hP.sub (ws' := [(q68, .inr (4, [.null, .null, .int 0, .int 0, .null]))]) [5] rfl
  have hDc := hD.sub (ws' := [(q68, .inr (4, [.null, .null, .int 0, .int 0, .null]))]) [5] (by decide) rfl
  have hFc := va_free (wc := [(q68, .inr (4, [.null, .null, .int 0, .int 0, .null]))]) hD hS hA [5] rfl
  refine va_callv (va_runIN (As := []) (rest := [.ref q68, .int 15, .ref q4]) ⟨hx, hb, hml, hown, hts⟩ (zc_X4_init l D cI cZ cP cF q68 H.size) ⟨va_cnB 0 hts zg_zc_X7_init_zc_X4_init rfl rfl rfl hE.nX7_45 (hts (.initialized RX4) (List.mem_of_getElem? (i := 33) rfl)) (by decide +kernel) ⟨Nat.le_of_ble_eq_true rfl, Nat.le_of_ble_eq_true rfl⟩, rfl, (hts (.instanceMethod yX4_init) (List.mem_of_getElem? (i := 37) rfl))⟩ ⟨zBW, fun U hU hW => ⟨rfl, by rw [hU], by rw [hU]; exact hPc, hE.warm hW, hDc.weaken (fun _ _ _ _ => trivial)⟩⟩ rfl rfl hl.1 rfl (lv_room (Nat.le_of_ble_eq_true rfl)) dX7_init_73 ⟨Nat.le_of_ble_eq_true rfl, Nat.le_of_ble_eq_true rfl⟩) hS (fun q _ h => hFc q h) hFc (fun u t H1 locs ht hvm h_73_69 hB hz1 hk1 hS => ?_)
  obtain ⟨q70, hP1, hD1⟩ := hB
  rw [ht] at hP1
  obtain ⟨hP, hD⟩ := va_join (wr := [(h0, .inr (7, [.ref p1, .ref p2, .ref q6, .ref q1, .ref q4, .ref q5, .int 0, .int 0, .int 0, .int 0])), (q1, .inr (10, [.int 0, .int 0, .int 0, .int 0, .int 0, .int 0, .ref q3])), (q3, .inl (cI, 4, .inl (fun _ => 0))), (q4, .inl (cF, 16, .inr (.inr (.inr (.inr ff_67))))), (q5, .inl (cI, 3, .inl (fun _ => 0)))]) (w1 := [(q68, .inr (4, [.null, .null, .int 0, .int 0, .ref q70]))]) hP hD [5] [0, 1, 2, 3, 4] rfl rfl (by decide) (by decide) hk1 hFc hP1 hD1
  generalize H1 = H at hP hS ⊢
  have hP : va_P D vwCl [(h0, .inr (7, [.ref p1, .ref p2, .ref q6, .ref q1, .ref q4, .ref q5, .int 0, .int 0, .int 0, .int 0])), (q1, .inr (10, [.int 0, .int 0, .int 0, .int 0, .int 0, .int 0, .ref q3])), (q3, .inl (cI, 4, .inl (fun _ => 0))), (q4, .inl (cF, 16, .inr (.inr (.inr (.inr ff_67))))), (q5, .inl (cI, 3, .inl (fun _ => 0))), (q68, .inr (4, [.null, .null, .int 0, .int 0, .ref q70]))] H := hP
  have hD : va_D A [(h0, .inr (7, [.ref p1, .ref p2, .ref q6, .ref q1, .ref q4, .ref q5, .int 0, .int 0, .int 0, .int 0])), (q1, .inr (10, [.int 0, .int 0, .int 0, .int 0, .int 0, .int 0, .ref q3])), (q3, .inl (cI, 4, .inl (fun _ => 0))), (q4, .inl (cF, 16, .inr (.inr (.inr (.inr ff_67))))), (q5, .inl (cI, 3, .inl (fun _ => 0))), (q68, .inr (4, [.null, .null, .int 0, .int 0, .ref q70]))] := hD
  have hin_76 : vp_in 15 16 := by unfold vp_in; decide
  refine va_astq hx hb hK hP hD hS 3 3 5 4 rfl rfl rfl rfl hin_76 dX7_init_76 (fun H locs hP hD hS => ?_)
  have hP : va_P D vwCl [(h0, .inr (7, [.ref p1, .ref p2, .ref q6, .ref q1, .ref q4, .ref q5, .int 0, .int 0, .int 0, .int 0])), (q1, .inr (10, [.int 0, .int 0, .int 0, .int 0, .int 0, .int 0, .ref q3])), (q3, .inl (cI, 4, .inl (fun _ => 0))), (q4, .inl (cF, 16, .inr (.inr (.inr (.inr (va_up ff_67 (15 : Int32).toNatClampNeg (some q68))))))), (q5, .inl (cI, 3, .inl (fun _ => 0))), (q68, .inr (4, [.null, .null, .int 0, .int 0, .ref q70]))] H := hP
  have hD : va_D A [(h0, .inr (7, [.ref p1, .ref p2, .ref q6, .ref q1, .ref q4, .ref q5, .int 0, .int 0, .int 0, .int 0])), (q1, .inr (10, [.int 0, .int 0, .int 0, .int 0, .int 0, .int 0, .ref q3])), (q3, .inl (cI, 4, .inl (fun _ => 0))), (q4, .inl (cF, 16, .inr (.inr (.inr (.inr (va_up ff_67 (15 : Int32).toNatClampNeg (some q68))))))), (q5, .inl (cI, 3, .inl (fun _ => 0))), (q68, .inr (4, [.null, .null, .int 0, .int 0, .ref q70]))] := hD
  have hP := hP.sub (ws' := [(h0, .inr (7, [.ref p1, .ref p2, .ref q6, .ref q1, .ref q4, .ref q5, .int 0, .int 0, .int 0, .int 0])), (q1, .inr (10, [.int 0, .int 0, .int 0, .int 0, .int 0, .int 0, .ref q3])), (q3, .inl (cI, 4, .inl (fun _ => 0))), (q4, .inl (cF, 16, .inr (.inr (.inr (.inr (va_up ff_67 (15 : Int32).toNatClampNeg (some q68))))))), (q5, .inl (cI, 3, .inl (fun _ => 0)))]) [0, 1, 2, 3, 4] rfl
  have hD := hD.sub (ws' := [(h0, .inr (7, [.ref p1, .ref p2, .ref q6, .ref q1, .ref q4, .ref q5, .int 0, .int 0, .int 0, .int 0])), (q1, .inr (10, [.int 0, .int 0, .int 0, .int 0, .int 0, .int 0, .ref q3])), (q3, .inl (cI, 4, .inl (fun _ => 0))), (q4, .inl (cF, 16, .inr (.inr (.inr (.inr (va_up ff_67 (15 : Int32).toNatClampNeg (some q68))))))), (q5, .inl (cI, 3, .inl (fun _ => 0)))]) [0, 1, 2, 3, 4] (by decide) rfl
  generalize (va_up ff_67 (15 : Int32).toNatClampNeg (some q68)) = ff_71 at hP hD
  refine lv_iinc (v := 16) (lv' := [(4, .int 16), (0, .ref h0), (1, .ref p1), (2, .ref p2), (3, .ref p3)]) hx hb dX7_init_77 hl (k := 0) rfl (by decide) (by decide) rfl (fun ls hl => ?_)
  refine lv_goto (tgt := 56) hx hb dX7_init_80 (by decide) ?_
  refine lv_iload hx hb dX7_init_56 (lv_at hl 0 rfl) ?_
  refine lv_bipush (v := 16) hx hb dX7_init_58 (by decide) ?_
  refine lv_icmp_ge (tgt := 83) hx hb dX7_init_60 (by decide) (fun _ => ?_) (fun c => absurd (by decide) c)
  have hP9 := hP.sub (ws' := [(h0, .inr (7, [.ref p1, .ref p2, .ref q6, .ref q1, .ref q4, .ref q5, .int 0, .int 0, .int 0, .int 0])), (q1, .inr (10, [.int 0, .int 0, .int 0, .int 0, .int 0, .int 0, .ref q3])), (q3, .inl (cI, 4, .inl (fun _ => 0)))]) [0, 1, 2] rfl
  have hD9 := hD.sub (ws' := [(h0, .inr (7, [.ref p1, .ref p2, .ref q6, .ref q1, .ref q4, .ref q5, .int 0, .int 0, .int 0, .int 0])), (q1, .inr (10, [.int 0, .int 0, .int 0, .int 0, .int 0, .int 0, .ref q3])), (q3, .inl (cI, 4, .inl (fun _ => 0)))]) [0, 1, 2] (by decide) rfl
  refine W.widen (k := 41) (n := 456) (Nat.le_of_ble_eq_true rfl) (Nat.le_of_ble_eq_true rfl) ?_
  exact W.vret hx hb hr (fun t ht hW => ⟨⟨(), rfl, trivial, q6, q1, q4, q5, q3, by rw [ht]; exact hP9, hD9⟩, hS.F ht⟩) hS.2.2 dX7_init_83

def zw_zc_X11_init : List Cond := .code yX11_init cX11_init 2 none :: ([.methodLink RX11 3 objectInit, .instanceMethod objectInit, .code objectInit ⟨#[0xb1]⟩ 1 none, .classLink RX11 9 RX3, .instantiable RX3 3, .initialized RX3, .code yX3_init cX3_init 1 none, .methodLink RX3 3 objectInit, .arrayClass .int, .fieldLink RX3 9 "TemplateForge$Draft" "cells" "[I", .fieldLink RX3 15 "TemplateForge$Draft" "starts" "[I", .instanceMethod yX3_init, .classLink RX11 12 RX0, .instantiable RX0 2, .initialized RX0, .code yX0_init cX0_init 1 none, .methodLink RX0 3 objectInit, .classLink RX0 9 RX8, .fieldLink RX0 11 "TemplateForge$Book" "programs" "[LTemplateForge$Program;", .instanceMethod yX0_init, .fieldLink RX11 15 "TemplateForge" "book" "LTemplateForge$Book;", .classLink RX11 19 RX2, .instantiable RX2 3, .initialized RX2, .code yX2_init cX2_init 1 none, .methodLink RX2 3 objectInit, .fieldLink RX2 9 "TemplateForge$Data" "fields" "[I", .fieldLink RX2 15 "TemplateForge$Data" "lengths" "[I", .fieldLink RX2 18 "TemplateForge$Data" "items" "[I", .code yJ7_fill_53178 cJ7_fill_53178 4 none, .methodLink RX2 21 yJ7_fill_53178, .static yJ7_fill_53178, .initialized RJ7, .instanceMethod yX2_init, .methodLink RX11 21 yX2_init, .fieldLink RX11 22 "TemplateForge" "data" "LTemplateForge$Data;", .classLink RX11 26 RX6, .instantiable RX6 4, .initialized RX6, .code yX6_init cX6_init 3 none, .methodLink RX6 3 objectInit, .arrayClass .boolean, .fieldLink RX6 9 "TemplateForge$Looker" "waiting" "[Z", .fieldLink RX6 15 "TemplateForge$Looker" "book" "LTemplateForge$Book;", .fieldLink RX6 19 "TemplateForge$Looker" "draft" "LTemplateForge$Draft;", .instanceMethod yX6_init, .methodLink RX11 28 yX6_init, .fieldLink RX11 31 "TemplateForge" "looker" "LTemplateForge$Looker;", .classLink RX11 35 RX7, .instantiable RX7 10, .initialized RX7, .code yX7_init cX7_init 5 none, .methodLink RX7 3 objectInit, .classLink RX7 9 RX10, .instantiable RX10 7, .initialized RX10, .code yX10_init cX10_init 1 none, .methodLink RX10 3 objectInit, .fieldLink RX10 9 "TemplateForge$Tally" "trap" "[I", .instanceMethod yX10_init, .fieldLink RX7 12 "TemplateForge$Machine" "tally" "LTemplateForge$Tally;", .classLink RX7 18 RX4, .fieldLink RX7 20 "TemplateForge$Machine" "frames" "[LTemplateForge$Frame;", .fieldLink RX7 24 "TemplateForge$Machine" "handed" "[I", .fieldLink RX7 28 "TemplateForge$Machine" "book" "LTemplateForge$Book;", .fieldLink RX7 32 "TemplateForge$Machine" "data" "LTemplateForge$Data;", .classLink RX7 36 RX9, .instantiable RX9 5, .initialized RX9, .code yX9_init cX9_init 2 none, .methodLink RX9 3 objectInit, .fieldLink RX9 9 "TemplateForge$Smith" "known" "[Z", .fieldLink RX9 15 "TemplateForge$Smith" "worth" "[I", .fieldLink RX9 19 "TemplateForge$Smith" "target" "[Z", .fieldLink RX9 22 "TemplateForge$Smith" "assumed" "[Z", .fieldLink RX9 25 "TemplateForge$Smith" "draft" "LTemplateForge$Draft;", .instanceMethod yX9_init, .methodLink RX7 38 yX9_init, .fieldLink RX7 41 "TemplateForge$Machine" "smith" "LTemplateForge$Smith;", .instantiable RX4 5, .initialized RX4, .code yX4_init cX4_init 1 none, .methodLink RX4 3 objectInit, .fieldLink RX4 9 "TemplateForge$Frame" "registers" "[I", .instanceMethod yX4_init, .instanceMethod yX7_init, .methodLink RX11 37 yX7_init, .fieldLink RX11 40 "TemplateForge" "machine" "LTemplateForge$Machine;"] ++ wsX30 ++ wsX00 ++ wsX110 ++ wsX20 ++ wsX60 ++ wsX70 ++ wsX100 ++ wsX90 ++ wsX40)
set_option maxRecDepth 100000 in
theorem zg_zc_X11_init_zc_X3_init : GoodIn zw_zc_X11_init zw_zc_X3_init := goodIn_r _ [7, 8, 2, 3, 9, 10, 11, 89, 90, 91] (by decide +kernel) (by decide +kernel)
set_option maxRecDepth 100000 in
theorem zg_zc_X11_init_zc_X0_init : GoodIn zw_zc_X11_init zw_zc_X0_init := goodIn_r _ [16, 17, 2, 3, 18, 19, 92, 93] (by decide +kernel) (by decide +kernel)
set_option maxRecDepth 100000 in
theorem zg_zc_X11_init_zc_X2_init : GoodIn zw_zc_X11_init zw_zc_X2_init := goodIn_r _ [25, 26, 2, 3, 9, 27, 28, 29, 30, 31, 32, 33, 98, 99, 100] (by decide +kernel) (by decide +kernel)
set_option maxRecDepth 100000 in
theorem zg_zc_X11_init_zc_X6_init : GoodIn zw_zc_X11_init zw_zc_X6_init := goodIn_r _ [40, 41, 2, 3, 42, 43, 44, 45, 101, 102, 103, 104] (by decide +kernel) (by decide +kernel)
set_option maxRecDepth 100000 in
theorem zg_zc_X11_init_zc_X7_init : GoodIn zw_zc_X11_init zw_zc_X7_init := goodIn_r _ [52, 53, 2, 3, 54, 55, 56, 57, 58, 9, 59, 60, 61, 62, 63, 64, 65, 66, 67, 68, 69, 70, 71, 42, 72, 73, 74, 75, 76, 77, 78, 79, 80, 81, 82, 83, 84, 85, 115, 116, 117, 118, 119, 120, 121, 105, 106, 107, 108, 109, 110, 111, 112, 113, 114, 122, 123, 124, 125, 126, 127, 128, 129, 130, 131] (by decide +kernel) (by decide +kernel)
set_option maxHeartbeats 4000000 in
set_option maxRecDepth 100000 in
theorem zc_X11_init (l : Launch) (D : va_G) (cI cZ cP cF : Nat) (h0 : Nat) (sz : Nat) : Met l yX11_init zw_zc_X11_init ({ frames := 3, cells := 53, slots := 8253, locals := 57 }) (va_Pc [.ref h0] (fun U => U.heap.size = sz ∧ va_P D vwCl [(h0, .inr (11, [.null, .null, .null, .null]))] U.heap ∧ zE D cI cZ cP cF U ∧ va_D (fun _ => True) [(h0, .inr (11, [.null, .null, .null, .null]))])) (va_Qv (fun (_ : Unit) => True) (fun (_ : Unit) t => ∃ (b : Nat), ∃ (d : Nat), ∃ (lo : Nat), ∃ (ma : Nat), ∃ (pr : Nat), ∃ (f : Nat), ∃ (le : Nat), ∃ (it : Nat), ∃ (g : Nat → Int32), ∃ (dr : Nat), ∃ (wa : Nat), ∃ (sm : Nat), ∃ (ta : Nat), ∃ (fr : Nat), ∃ (ha : Nat), ∃ (tr : Nat), zM4 g ∧ va_P D vwCl [(h0, .inr (11, [.ref b, .ref d, .ref lo, .ref ma])), (b, .inr (0, [.ref pr, .int 0])), (pr, .inl (cP, 8, .inr (.inr (.inr (.inr (fun _ => none)))))), (d, .inr (2, [.ref f, .ref le, .ref it])), (f, .inl (cI, 8, .inl (fun _ => 0))), (le, .inl (cI, 4, .inl g)), (it, .inl (cI, 80, .inl (fun _ => 0))), (lo, .inr (6, [.ref b, .ref dr, .ref wa, .int 0])), (ma, .inr (7, [.ref b, .ref d, .ref sm, .ref ta, .ref fr, .ref ha, .int 0, .int 0, .int 0, .int 0])), (ta, .inr (10, [.int 0, .int 0, .int 0, .int 0, .int 0, .int 0, .ref tr])), (tr, .inl (cI, 4, .inl (fun _ => 0)))] t.heap ∧ va_D (va_A [(h0, .inr (11, [.null, .null, .null, .null]))] sz) [(h0, .inr (11, [.ref b, .ref d, .ref lo, .ref ma])), (b, .inr (0, [.ref pr, .int 0])), (pr, .inl (cP, 8, .inr (.inr (.inr (.inr (fun _ => none)))))), (d, .inr (2, [.ref f, .ref le, .ref it])), (f, .inl (cI, 8, .inl (fun _ => 0))), (le, .inl (cI, 4, .inl g)), (it, .inl (cI, 80, .inl (fun _ => 0))), (lo, .inr (6, [.ref b, .ref dr, .ref wa, .int 0])), (ma, .inr (7, [.ref b, .ref d, .ref sm, .ref ta, .ref fr, .ref ha, .int 0, .int 0, .int 0, .int 0])), (ta, .inr (10, [.int 0, .int 0, .int 0, .int 0, .int 0, .int 0, .ref tr])), (tr, .inl (cI, 4, .inl (fun _ => 0)))]) (va_A [(h0, .inr (11, [.null, .null, .null, .null]))] sz)) 53 8253 (va_A [(h0, .inr (11, [.null, .null, .null, .null]))] sz) := by
  refine Met.ofW (cc := cX11_init) (maxL := 2) (ret := none) (by decide) rfl ?_
  intro p e s m args below meth c s₁ B hml hv
  obtain ⟨rfl, hsz, hP, hE, hD0⟩ := hv
  have hx := B.exec
  have hb := B.bytes
  have hr := B.returns
  have hts := atoms_spec (ws := zw_zc_X11_init) B.pre
  have hown : s.vm.findClass RX11 = some m.cls := findClass_of_methodNamed B.named
  have hlocks := B.notSynchronized
  have hK := hE.k
  have hin : meth.name = "<init>" := (name_of_methodNamed B.named B.method).1
  subst hsz
  have hD := hD0.self (sz := s.heap.size)
  generalize hAe : va_A [(h0, .inr (11, [.null, .null, .null, .null]))] s.heap.size = A at hD ⊢
  have hA : ∀ q : Nat, s.heap.size ≤ q → A q := fun q h => by rw [← hAe]; exact Or.inr h
  have hS : va_S A s.heap s.heap [] := va_S.rf
  have hP : va_P D vwCl [(h0, .inr (11, [.null, .null, .null, .null]))] s.heap := hP
  have hl := lv_entry ([.ref h0]) (n := 2) (Nat.le_of_ble_eq_true rfl)
  rw [lg_entry_eq]
  generalize (lg_sl ([.ref h0]) ++ List.replicate (2 - (lg_sl ([.ref h0])).length) Slot.unset).toArray = ls at hl ⊢
  have hl : lv_has ls 2 [(0, .ref h0)] := hl
  refine lv_aload_n hx hb dX11_init_0 rfl (lv_at hl 0 rfl) ?_
  refine W.objInit hx hb hown (hts (.methodLink RX11 3 objectInit) (List.mem_of_getElem? (i := 1) rfl)) (hts (.instanceMethod objectInit) (List.mem_of_getElem? (i := 2) rfl)) (hts (.code objectInit ⟨#[0xb1]⟩ 1 none) (List.mem_of_getElem? (i := 3) rfl)) rfl (by rw [hml]; exact hl.1) rfl dX11_init_1 (Nat.le_of_ble_eq_true rfl) (Nat.le_of_ble_eq_true rfl) ?_
  refine W.eq (g2 := F0 m 4 ls []) rfl ?_
  refine va_new (ci := 3) (fs := [.null, .null, .int 0]) (C := RX3) (T := TX3) (N := 3) hx hb hts (fun _ h => List.mem_cons_of_mem _ (List.mem_append_left _ (List.mem_append_left _ (List.mem_append_left _ (List.mem_append_left _ (List.mem_append_left _ (List.mem_append_left _ (List.mem_append_left _ (List.mem_append_left _ (List.mem_append_right _ h)))))))))) tyX3 tyX3_ok hown (hts (.classLink RX11 9 RX3) (List.mem_of_getElem? (i := 4) rfl)) (hts (.instantiable RX3 3) (List.mem_of_getElem? (i := 5) rfl)) (hts (.initialized RX3) (List.mem_of_getElem? (i := 6) rfl)) hK hP hD hS hA rfl (fun j hj => by rcases (show j = 0 ∨ j = 1 ∨ j = 2 by omega) with rfl | rfl | rfl <;> rfl) (Nat.le_of_ble_eq_true rfl) (Nat.le_of_ble_eq_true rfl) dX11_init_4 (fun q1 H hP hD hS => ?_)
  have hP : va_P D vwCl [(h0, .inr (11, [.null, .null, .null, .null])), (q1, .inr (3, [.null, .null, .int 0]))] H := hP
  have hD : va_D A [(h0, .inr (11, [.null, .null, .null, .null])), (q1, .inr (3, [.null, .null, .int 0]))] := hD
  refine lv_dup hx hb dX11_init_7 rfl ?_
  have hPc := hP.sub (ws' := [(q1, .inr (3, [.null, .null, .int 0]))]) [1] rfl
  have hDc := hD.sub (ws' := [(q1, .inr (3, [.null, .null, .int 0]))]) [1] (by decide) rfl
  have hFc := va_free (wc := [(q1, .inr (3, [.null, .null, .int 0]))]) hD hS hA [1] rfl
  refine va_callv (va_runIN (As := []) (rest := [.ref q1]) ⟨hx, hb, hml, hown, hts⟩ (zc_X3_init l D cI cZ cP cF q1 H.size) ⟨va_cnB 0 hts zg_zc_X11_init_zc_X3_init rfl rfl rfl hE.nX11_11 (hts (.initialized RX3) (List.mem_of_getElem? (i := 6) rfl)) (by decide +kernel) ⟨Nat.le_of_ble_eq_true rfl, Nat.le_of_ble_eq_true rfl⟩, rfl, (hts (.instanceMethod yX3_init) (List.mem_of_getElem? (i := 12) rfl))⟩ ⟨zBW, fun U hU hW => ⟨rfl, by rw [hU], by rw [hU]; exact hPc, hE.warm hW, hDc.weaken (fun _ _ _ _ => trivial)⟩⟩ rfl rfl hl.1 rfl (lv_room (Nat.le_of_ble_eq_true rfl)) dX11_init_8 ⟨Nat.le_of_ble_eq_true rfl, Nat.le_of_ble_eq_true rfl⟩) hS (fun q _ h => hFc q h) hFc (fun u t H1 locs ht hvm h_8_2 hB hz1 hk1 hS => ?_)
  obtain ⟨hP1, hD1⟩ := hB
  rw [ht] at hP1
  obtain ⟨hP, hD⟩ := va_join (wr := [(h0, .inr (11, [.null, .null, .null, .null]))]) (w1 := []) hP hD [1] [0] rfl rfl (by decide) (by decide) hk1 hFc hP1 hD1
  generalize H1 = H at hP hS ⊢
  have hP : va_P D vwCl [(h0, .inr (11, [.null, .null, .null, .null]))] H := hP
  have hD : va_D A [(h0, .inr (11, [.null, .null, .null, .null]))] := hD
  refine lv_astore_n (lv' := [(1, .ref q1), (0, .ref h0)]) hx hb dX11_init_11 rfl hl (by decide) rfl (fun ls hl => ?_)
  refine lv_aload_n hx hb dX11_init_12 rfl (lv_at hl 1 rfl) ?_
  refine va_new (ci := 0) (fs := [.null, .int 0]) (C := RX0) (T := TX0) (N := 2) hx hb hts (fun _ h => List.mem_cons_of_mem _ (List.mem_append_left _ (List.mem_append_left _ (List.mem_append_left _ (List.mem_append_left _ (List.mem_append_left _ (List.mem_append_left _ (List.mem_append_left _ (List.mem_append_right _ h))))))))) tyX0 tyX0_ok hown (hts (.classLink RX11 12 RX0) (List.mem_of_getElem? (i := 13) rfl)) (hts (.instantiable RX0 2) (List.mem_of_getElem? (i := 14) rfl)) (hts (.initialized RX0) (List.mem_of_getElem? (i := 15) rfl)) hK hP hD hS hA rfl (fun j hj => by rcases (show j = 0 ∨ j = 1 by omega) with rfl | rfl <;> rfl) (Nat.le_of_ble_eq_true rfl) (Nat.le_of_ble_eq_true rfl) dX11_init_13 (fun q3 H hP hD hS => ?_)
  have hP : va_P D vwCl [(h0, .inr (11, [.null, .null, .null, .null])), (q3, .inr (0, [.null, .int 0]))] H := hP
  have hD : va_D A [(h0, .inr (11, [.null, .null, .null, .null])), (q3, .inr (0, [.null, .int 0]))] := hD
  refine lv_dup hx hb dX11_init_16 rfl ?_
  have hPc := hP.sub (ws' := [(q3, .inr (0, [.null, .int 0]))]) [1] rfl
  have hDc := hD.sub (ws' := [(q3, .inr (0, [.null, .int 0]))]) [1] (by decide) rfl
  have hFc := va_free (wc := [(q3, .inr (0, [.null, .int 0]))]) hD hS hA [1] rfl
  refine va_callv (va_runIN (As := []) (rest := [.ref q3, .ref h0]) ⟨hx, hb, hml, hown, hts⟩ (zc_X0_init l D cI cZ cP cF q3 H.size) ⟨va_cnB 0 hts zg_zc_X11_init_zc_X0_init rfl rfl rfl hE.nX11_14 (hts (.initialized RX0) (List.mem_of_getElem? (i := 15) rfl)) (by decide +kernel) ⟨Nat.le_of_ble_eq_true rfl, Nat.le_of_ble_eq_true rfl⟩, rfl, (hts (.instanceMethod yX0_init) (List.mem_of_getElem? (i := 20) rfl))⟩ ⟨zBW, fun U hU hW => ⟨rfl, by rw [hU], by rw [hU]; exact hPc, hE.warm hW, hDc.weaken (fun _ _ _ _ => trivial)⟩⟩ rfl rfl hl.1 rfl (lv_room (Nat.le_of_ble_eq_true rfl)) dX11_init_17 ⟨Nat.le_of_ble_eq_true rfl, Nat.le_of_ble_eq_true rfl⟩) hS (fun q _ h => hFc q h) hFc (fun u t H1 locs ht hvm h_17_4 hB hz1 hk1 hS => ?_)
  obtain ⟨q5, hP1, hD1⟩ := hB
  rw [ht] at hP1
  obtain ⟨hP, hD⟩ := va_join (wr := [(h0, .inr (11, [.null, .null, .null, .null]))]) (w1 := [(q3, .inr (0, [.ref q5, .int 0])), (q5, .inl (cP, 8, .inr (.inr (.inr (.inr (fun _ => none))))))]) hP hD [1] [0] rfl rfl (by decide) (by decide) hk1 hFc hP1 hD1
  generalize H1 = H at hP hS ⊢
  have hP : va_P D vwCl [(h0, .inr (11, [.null, .null, .null, .null])), (q3, .inr (0, [.ref q5, .int 0])), (q5, .inl (cP, 8, .inr (.inr (.inr (.inr (fun _ => none))))))] H := hP
  have hD : va_D A [(h0, .inr (11, [.null, .null, .null, .null])), (q3, .inr (0, [.ref q5, .int 0])), (q5, .inl (cP, 8, .inr (.inr (.inr (.inr (fun _ => none))))))] := hD
  refine va_putF (D := D) (ci := 11) (v := .ref q3) (ty := .object "TemplateForge$Book") (C := RX11) (T := TX11) (N := 4) hx hb hts (fun _ h => List.mem_cons_of_mem _ (List.mem_append_left _ (List.mem_append_left _ (List.mem_append_left _ (List.mem_append_left _ (List.mem_append_left _ (List.mem_append_left _ (List.mem_append_right _ h)))))))) tyX11 tyX11_ok nmX11 hown hK hP hD hS 0 rfl rfl 0 (by decide) (hts (.fieldLink RX11 15 "TemplateForge" "book" "LTemplateForge$Book;") (List.mem_of_getElem? (i := 21) rfl)) (fun _ h9 => h9) rfl hin rfl (by decide +kernel) rfl rfl (Nat.le_of_ble_eq_true rfl) dX11_init_20 (fun H locs hP hD hS => ?_)
  have hP : va_P D vwCl [(h0, .inr (11, [.ref q3, .null, .null, .null])), (q3, .inr (0, [.ref q5, .int 0])), (q5, .inl (cP, 8, .inr (.inr (.inr (.inr (fun _ => none))))))] H := hP
  have hD : va_D A [(h0, .inr (11, [.ref q3, .null, .null, .null])), (q3, .inr (0, [.ref q5, .int 0])), (q5, .inl (cP, 8, .inr (.inr (.inr (.inr (fun _ => none))))))] := hD
  refine lv_aload_n hx hb dX11_init_23 rfl (lv_at hl 1 rfl) ?_
  refine va_new (ci := 2) (fs := [.null, .null, .null]) (C := RX2) (T := TX2) (N := 3) hx hb hts (fun _ h => List.mem_cons_of_mem _ (List.mem_append_left _ (List.mem_append_left _ (List.mem_append_left _ (List.mem_append_left _ (List.mem_append_left _ (List.mem_append_right _ h))))))) tyX2 tyX2_ok hown (hts (.classLink RX11 19 RX2) (List.mem_of_getElem? (i := 22) rfl)) (hts (.instantiable RX2 3) (List.mem_of_getElem? (i := 23) rfl)) (hts (.initialized RX2) (List.mem_of_getElem? (i := 24) rfl)) hK hP hD hS hA rfl (fun j hj => by rcases (show j = 0 ∨ j = 1 ∨ j = 2 by omega) with rfl | rfl | rfl <;> rfl) (Nat.le_of_ble_eq_true rfl) (Nat.le_of_ble_eq_true rfl) dX11_init_24 (fun q6 H hP hD hS => ?_)
  have hP : va_P D vwCl [(h0, .inr (11, [.ref q3, .null, .null, .null])), (q3, .inr (0, [.ref q5, .int 0])), (q5, .inl (cP, 8, .inr (.inr (.inr (.inr (fun _ => none)))))), (q6, .inr (2, [.null, .null, .null]))] H := hP
  have hD : va_D A [(h0, .inr (11, [.ref q3, .null, .null, .null])), (q3, .inr (0, [.ref q5, .int 0])), (q5, .inl (cP, 8, .inr (.inr (.inr (.inr (fun _ => none)))))), (q6, .inr (2, [.null, .null, .null]))] := hD
  refine lv_dup hx hb dX11_init_27 rfl ?_
  have hPc := hP.sub (ws' := [(q6, .inr (2, [.null, .null, .null]))]) [3] rfl
  have hDc := hD.sub (ws' := [(q6, .inr (2, [.null, .null, .null]))]) [3] (by decide) rfl
  have hFc := va_free (wc := [(q6, .inr (2, [.null, .null, .null]))]) hD hS hA [3] rfl
  refine va_callv (va_runI (As := []) (rest := [.ref q6, .ref h0]) ⟨hx, hb, hml, hown, hts⟩ (zc_X2_init l D cI cZ cP cF q6 H.size) (cwI 0 hts zg_zc_X11_init_zc_X2_init rfl rfl rfl (hts (.initialized RX2) (List.mem_of_getElem? (i := 24) rfl)) (hts (.methodLink RX11 21 yX2_init) (List.mem_of_getElem? (i := 35) rfl)) (hts (.instanceMethod yX2_init) (List.mem_of_getElem? (i := 34) rfl)) rfl (by decide +kernel) ⟨Nat.le_of_ble_eq_true rfl, Nat.le_of_ble_eq_true rfl⟩) ⟨zBW, fun U hU hW => ⟨rfl, by rw [hU], by rw [hU]; exact hPc, hE.warm hW, hDc.weaken (fun _ _ _ _ => trivial)⟩⟩ rfl rfl hl.1 rfl (lv_room (Nat.le_of_ble_eq_true rfl)) dX11_init_28 ⟨Nat.le_of_ble_eq_true rfl, Nat.le_of_ble_eq_true rfl⟩) hS (fun q _ h => hFc q h) hFc (fun u t H1 locs ht hvm h_28_7 hB hz1 hk1 hS => ?_)
  obtain ⟨q8, q9, q10, q11, hM_12, hP1, hD1⟩ := hB
  rw [ht] at hP1
  obtain ⟨hP, hD⟩ := va_join (wr := [(h0, .inr (11, [.ref q3, .null, .null, .null])), (q3, .inr (0, [.ref q5, .int 0])), (q5, .inl (cP, 8, .inr (.inr (.inr (.inr (fun _ => none))))))]) (w1 := [(q6, .inr (2, [.ref q8, .ref q9, .ref q10])), (q8, .inl (cI, 8, .inl (fun _ => 0))), (q9, .inl (cI, 4, .inl q11)), (q10, .inl (cI, 80, .inl (fun _ => 0)))]) hP hD [3] [0, 1, 2] rfl rfl (by decide) (by decide) hk1 hFc hP1 hD1
  generalize H1 = H at hP hS ⊢
  have hP : va_P D vwCl [(h0, .inr (11, [.ref q3, .null, .null, .null])), (q3, .inr (0, [.ref q5, .int 0])), (q5, .inl (cP, 8, .inr (.inr (.inr (.inr (fun _ => none)))))), (q6, .inr (2, [.ref q8, .ref q9, .ref q10])), (q8, .inl (cI, 8, .inl (fun _ => 0))), (q9, .inl (cI, 4, .inl q11)), (q10, .inl (cI, 80, .inl (fun _ => 0)))] H := hP
  have hD : va_D A [(h0, .inr (11, [.ref q3, .null, .null, .null])), (q3, .inr (0, [.ref q5, .int 0])), (q5, .inl (cP, 8, .inr (.inr (.inr (.inr (fun _ => none)))))), (q6, .inr (2, [.ref q8, .ref q9, .ref q10])), (q8, .inl (cI, 8, .inl (fun _ => 0))), (q9, .inl (cI, 4, .inl q11)), (q10, .inl (cI, 80, .inl (fun _ => 0)))] := hD
  refine va_putF (D := D) (ci := 11) (v := .ref q6) (ty := .object "TemplateForge$Data") (C := RX11) (T := TX11) (N := 4) hx hb hts (fun _ h => List.mem_cons_of_mem _ (List.mem_append_left _ (List.mem_append_left _ (List.mem_append_left _ (List.mem_append_left _ (List.mem_append_left _ (List.mem_append_left _ (List.mem_append_right _ h)))))))) tyX11 tyX11_ok nmX11 hown hK hP hD hS 0 rfl rfl 1 (by decide) (hts (.fieldLink RX11 22 "TemplateForge" "data" "LTemplateForge$Data;") (List.mem_of_getElem? (i := 36) rfl)) (fun _ h9 => h9) rfl hin rfl (by decide +kernel) rfl rfl (Nat.le_of_ble_eq_true rfl) dX11_init_31 (fun H locs hP hD hS => ?_)
  have hP : va_P D vwCl [(h0, .inr (11, [.ref q3, .ref q6, .null, .null])), (q3, .inr (0, [.ref q5, .int 0])), (q5, .inl (cP, 8, .inr (.inr (.inr (.inr (fun _ => none)))))), (q6, .inr (2, [.ref q8, .ref q9, .ref q10])), (q8, .inl (cI, 8, .inl (fun _ => 0))), (q9, .inl (cI, 4, .inl q11)), (q10, .inl (cI, 80, .inl (fun _ => 0)))] H := hP
  have hD : va_D A [(h0, .inr (11, [.ref q3, .ref q6, .null, .null])), (q3, .inr (0, [.ref q5, .int 0])), (q5, .inl (cP, 8, .inr (.inr (.inr (.inr (fun _ => none)))))), (q6, .inr (2, [.ref q8, .ref q9, .ref q10])), (q8, .inl (cI, 8, .inl (fun _ => 0))), (q9, .inl (cI, 4, .inl q11)), (q10, .inl (cI, 80, .inl (fun _ => 0)))] := hD
  refine lv_aload_n hx hb dX11_init_34 rfl (lv_at hl 1 rfl) ?_
  refine va_new (ci := 6) (fs := [.null, .null, .null, .int 0]) (C := RX6) (T := TX6) (N := 4) hx hb hts (fun _ h => List.mem_cons_of_mem _ (List.mem_append_left _ (List.mem_append_left _ (List.mem_append_left _ (List.mem_append_left _ (List.mem_append_right _ h)))))) tyX6 tyX6_ok hown (hts (.classLink RX11 26 RX6) (List.mem_of_getElem? (i := 37) rfl)) (hts (.instantiable RX6 4) (List.mem_of_getElem? (i := 38) rfl)) (hts (.initialized RX6) (List.mem_of_getElem? (i := 39) rfl)) hK hP hD hS hA rfl (fun j hj => by rcases (show j = 0 ∨ j = 1 ∨ j = 2 ∨ j = 3 by omega) with rfl | rfl | rfl | rfl <;> rfl) (Nat.le_of_ble_eq_true rfl) (Nat.le_of_ble_eq_true rfl) dX11_init_35 (fun q13 H hP hD hS => ?_)
  have hP : va_P D vwCl [(h0, .inr (11, [.ref q3, .ref q6, .null, .null])), (q3, .inr (0, [.ref q5, .int 0])), (q5, .inl (cP, 8, .inr (.inr (.inr (.inr (fun _ => none)))))), (q6, .inr (2, [.ref q8, .ref q9, .ref q10])), (q8, .inl (cI, 8, .inl (fun _ => 0))), (q9, .inl (cI, 4, .inl q11)), (q10, .inl (cI, 80, .inl (fun _ => 0))), (q13, .inr (6, [.null, .null, .null, .int 0]))] H := hP
  have hD : va_D A [(h0, .inr (11, [.ref q3, .ref q6, .null, .null])), (q3, .inr (0, [.ref q5, .int 0])), (q5, .inl (cP, 8, .inr (.inr (.inr (.inr (fun _ => none)))))), (q6, .inr (2, [.ref q8, .ref q9, .ref q10])), (q8, .inl (cI, 8, .inl (fun _ => 0))), (q9, .inl (cI, 4, .inl q11)), (q10, .inl (cI, 80, .inl (fun _ => 0))), (q13, .inr (6, [.null, .null, .null, .int 0]))] := hD
  refine lv_dup hx hb dX11_init_38 rfl ?_
  refine lv_aload_n hx hb dX11_init_39 rfl (lv_at hl 1 rfl) ?_
  refine va_get (D := D) (ci := 11) (v := .ref q3) (C := RX11) (T := TX11) (N := 4) hx hb hts (fun _ h => List.mem_cons_of_mem _ (List.mem_append_left _ (List.mem_append_left _ (List.mem_append_left _ (List.mem_append_left _ (List.mem_append_left _ (List.mem_append_left _ (List.mem_append_right _ h)))))))) hown hK hP 0 rfl rfl 0 (by decide) (hts (.fieldLink RX11 15 "TemplateForge" "book" "LTemplateForge$Book;") (List.mem_of_getElem? (i := 21) rfl)) (fun _ h9 => h9) rfl dX11_init_40 ?_
  refine lv_aload_n hx hb dX11_init_43 rfl (lv_at hl 0 rfl) ?_
  have hPc := hP.sub (ws' := [(q13, .inr (6, [.null, .null, .null, .int 0]))]) [7] rfl
  have hDc := hD.sub (ws' := [(q13, .inr (6, [.null, .null, .null, .int 0]))]) [7] (by decide) rfl
  have hFc := va_free (wc := [(q13, .inr (6, [.null, .null, .null, .int 0]))]) hD hS hA [7] rfl
  refine va_callv (va_runI (As := [.ref q3, .ref q1]) (rest := [.ref q13, .ref h0]) ⟨hx, hb, hml, hown, hts⟩ (zc_X6_init l D cI cZ cP cF q13 q3 q1 H.size) (cwI 2 hts zg_zc_X11_init_zc_X6_init rfl rfl rfl (hts (.initialized RX6) (List.mem_of_getElem? (i := 39) rfl)) (hts (.methodLink RX11 28 yX6_init) (List.mem_of_getElem? (i := 47) rfl)) (hts (.instanceMethod yX6_init) (List.mem_of_getElem? (i := 46) rfl)) rfl (by decide +kernel) ⟨Nat.le_of_ble_eq_true rfl, Nat.le_of_ble_eq_true rfl⟩) ⟨zBW, fun U hU hW => ⟨rfl, by rw [hU], by rw [hU]; exact hPc, hE.warm hW, hDc.weaken (fun _ _ _ _ => trivial)⟩⟩ rfl rfl hl.1 rfl (lv_room (Nat.le_of_ble_eq_true rfl)) dX11_init_44 ⟨Nat.le_of_ble_eq_true rfl, Nat.le_of_ble_eq_true rfl⟩) hS (fun q _ h => hFc q h) hFc (fun u t H1 locs ht hvm h_44_14 hB hz1 hk1 hS => ?_)
  obtain ⟨q15, hP1, hD1⟩ := hB
  rw [ht] at hP1
  obtain ⟨hP, hD⟩ := va_join (wr := [(h0, .inr (11, [.ref q3, .ref q6, .null, .null])), (q3, .inr (0, [.ref q5, .int 0])), (q5, .inl (cP, 8, .inr (.inr (.inr (.inr (fun _ => none)))))), (q6, .inr (2, [.ref q8, .ref q9, .ref q10])), (q8, .inl (cI, 8, .inl (fun _ => 0))), (q9, .inl (cI, 4, .inl q11)), (q10, .inl (cI, 80, .inl (fun _ => 0)))]) (w1 := [(q13, .inr (6, [.ref q3, .ref q1, .ref q15, .int 0]))]) hP hD [7] [0, 1, 2, 3, 4, 5, 6] rfl rfl (by decide) (by decide) hk1 hFc hP1 hD1
  generalize H1 = H at hP hS ⊢
  have hP : va_P D vwCl [(h0, .inr (11, [.ref q3, .ref q6, .null, .null])), (q3, .inr (0, [.ref q5, .int 0])), (q5, .inl (cP, 8, .inr (.inr (.inr (.inr (fun _ => none)))))), (q6, .inr (2, [.ref q8, .ref q9, .ref q10])), (q8, .inl (cI, 8, .inl (fun _ => 0))), (q9, .inl (cI, 4, .inl q11)), (q10, .inl (cI, 80, .inl (fun _ => 0))), (q13, .inr (6, [.ref q3, .ref q1, .ref q15, .int 0]))] H := hP
  have hD : va_D A [(h0, .inr (11, [.ref q3, .ref q6, .null, .null])), (q3, .inr (0, [.ref q5, .int 0])), (q5, .inl (cP, 8, .inr (.inr (.inr (.inr (fun _ => none)))))), (q6, .inr (2, [.ref q8, .ref q9, .ref q10])), (q8, .inl (cI, 8, .inl (fun _ => 0))), (q9, .inl (cI, 4, .inl q11)), (q10, .inl (cI, 80, .inl (fun _ => 0))), (q13, .inr (6, [.ref q3, .ref q1, .ref q15, .int 0]))] := hD
  refine va_putF (D := D) (ci := 11) (v := .ref q13) (ty := .object "TemplateForge$Looker") (C := RX11) (T := TX11) (N := 4) hx hb hts (fun _ h => List.mem_cons_of_mem _ (List.mem_append_left _ (List.mem_append_left _ (List.mem_append_left _ (List.mem_append_left _ (List.mem_append_left _ (List.mem_append_left _ (List.mem_append_right _ h)))))))) tyX11 tyX11_ok nmX11 hown hK hP hD hS 0 rfl rfl 2 (by decide) (hts (.fieldLink RX11 31 "TemplateForge" "looker" "LTemplateForge$Looker;") (List.mem_of_getElem? (i := 48) rfl)) (fun _ h9 => h9) rfl hin rfl (by decide +kernel) rfl rfl (Nat.le_of_ble_eq_true rfl) dX11_init_47 (fun H locs hP hD hS => ?_)
  have hP : va_P D vwCl [(h0, .inr (11, [.ref q3, .ref q6, .ref q13, .null])), (q3, .inr (0, [.ref q5, .int 0])), (q5, .inl (cP, 8, .inr (.inr (.inr (.inr (fun _ => none)))))), (q6, .inr (2, [.ref q8, .ref q9, .ref q10])), (q8, .inl (cI, 8, .inl (fun _ => 0))), (q9, .inl (cI, 4, .inl q11)), (q10, .inl (cI, 80, .inl (fun _ => 0))), (q13, .inr (6, [.ref q3, .ref q1, .ref q15, .int 0]))] H := hP
  have hD : va_D A [(h0, .inr (11, [.ref q3, .ref q6, .ref q13, .null])), (q3, .inr (0, [.ref q5, .int 0])), (q5, .inl (cP, 8, .inr (.inr (.inr (.inr (fun _ => none)))))), (q6, .inr (2, [.ref q8, .ref q9, .ref q10])), (q8, .inl (cI, 8, .inl (fun _ => 0))), (q9, .inl (cI, 4, .inl q11)), (q10, .inl (cI, 80, .inl (fun _ => 0))), (q13, .inr (6, [.ref q3, .ref q1, .ref q15, .int 0]))] := hD
  refine lv_aload_n hx hb dX11_init_50 rfl (lv_at hl 1 rfl) ?_
  refine va_new (ci := 7) (fs := [.null, .null, .null, .null, .null, .null, .int 0, .int 0, .int 0, .int 0]) (C := RX7) (T := TX7) (N := 10) hx hb hts (fun _ h => List.mem_cons_of_mem _ (List.mem_append_left _ (List.mem_append_left _ (List.mem_append_left _ (List.mem_append_right _ h))))) tyX7 tyX7_ok hown (hts (.classLink RX11 35 RX7) (List.mem_of_getElem? (i := 49) rfl)) (hts (.instantiable RX7 10) (List.mem_of_getElem? (i := 50) rfl)) (hts (.initialized RX7) (List.mem_of_getElem? (i := 51) rfl)) hK hP hD hS hA rfl (fun j hj => by rcases (show j = 0 ∨ j = 1 ∨ j = 2 ∨ j = 3 ∨ j = 4 ∨ j = 5 ∨ j = 6 ∨ j = 7 ∨ j = 8 ∨ j = 9 by omega) with rfl | rfl | rfl | rfl | rfl | rfl | rfl | rfl | rfl | rfl <;> rfl) (Nat.le_of_ble_eq_true rfl) (Nat.le_of_ble_eq_true rfl) dX11_init_51 (fun q16 H hP hD hS => ?_)
  have hP : va_P D vwCl [(h0, .inr (11, [.ref q3, .ref q6, .ref q13, .null])), (q3, .inr (0, [.ref q5, .int 0])), (q5, .inl (cP, 8, .inr (.inr (.inr (.inr (fun _ => none)))))), (q6, .inr (2, [.ref q8, .ref q9, .ref q10])), (q8, .inl (cI, 8, .inl (fun _ => 0))), (q9, .inl (cI, 4, .inl q11)), (q10, .inl (cI, 80, .inl (fun _ => 0))), (q13, .inr (6, [.ref q3, .ref q1, .ref q15, .int 0])), (q16, .inr (7, [.null, .null, .null, .null, .null, .null, .int 0, .int 0, .int 0, .int 0]))] H := hP
  have hD : va_D A [(h0, .inr (11, [.ref q3, .ref q6, .ref q13, .null])), (q3, .inr (0, [.ref q5, .int 0])), (q5, .inl (cP, 8, .inr (.inr (.inr (.inr (fun _ => none)))))), (q6, .inr (2, [.ref q8, .ref q9, .ref q10])), (q8, .inl (cI, 8, .inl (fun _ => 0))), (q9, .inl (cI, 4, .inl q11)), (q10, .inl (cI, 80, .inl (fun _ => 0))), (q13, .inr (6, [.ref q3, .ref q1, .ref q15, .int 0])), (q16, .inr (7, [.null, .null, .null, .null, .null, .null, .int 0, .int 0, .int 0, .int 0]))] := hD
  refine lv_dup hx hb dX11_init_54 rfl ?_
  refine lv_aload_n hx hb dX11_init_55 rfl (lv_at hl 1 rfl) ?_
  refine va_get (D := D) (ci := 11) (v := .ref q3) (C := RX11) (T := TX11) (N := 4) hx hb hts (fun _ h => List.mem_cons_of_mem _ (List.mem_append_left _ (List.mem_append_left _ (List.mem_append_left _ (List.mem_append_left _ (List.mem_append_left _ (List.mem_append_left _ (List.mem_append_right _ h)))))))) hown hK hP 0 rfl rfl 0 (by decide) (hts (.fieldLink RX11 15 "TemplateForge" "book" "LTemplateForge$Book;") (List.mem_of_getElem? (i := 21) rfl)) (fun _ h9 => h9) rfl dX11_init_56 ?_
  refine lv_aload_n hx hb dX11_init_59 rfl (lv_at hl 1 rfl) ?_
  refine va_get (D := D) (ci := 11) (v := .ref q6) (C := RX11) (T := TX11) (N := 4) hx hb hts (fun _ h => List.mem_cons_of_mem _ (List.mem_append_left _ (List.mem_append_left _ (List.mem_append_left _ (List.mem_append_left _ (List.mem_append_left _ (List.mem_append_left _ (List.mem_append_right _ h)))))))) hown hK hP 0 rfl rfl 1 (by decide) (hts (.fieldLink RX11 22 "TemplateForge" "data" "LTemplateForge$Data;") (List.mem_of_getElem? (i := 36) rfl)) (fun _ h9 => h9) rfl dX11_init_60 ?_
  refine lv_aload_n hx hb dX11_init_63 rfl (lv_at hl 0 rfl) ?_
  have hPc := hP.sub (ws' := [(q16, .inr (7, [.null, .null, .null, .null, .null, .null, .int 0, .int 0, .int 0, .int 0]))]) [8] rfl
  have hDc := hD.sub (ws' := [(q16, .inr (7, [.null, .null, .null, .null, .null, .null, .int 0, .int 0, .int 0, .int 0]))]) [8] (by decide) rfl
  have hFc := va_free (wc := [(q16, .inr (7, [.null, .null, .null, .null, .null, .null, .int 0, .int 0, .int 0, .int 0]))]) hD hS hA [8] rfl
  refine va_callv (va_runI (As := [.ref q3, .ref q6, .ref q1]) (rest := [.ref q16, .ref h0]) ⟨hx, hb, hml, hown, hts⟩ (zc_X7_init l D cI cZ cP cF q16 q3 q6 q1 H.size) (cwI 3 hts zg_zc_X11_init_zc_X7_init rfl rfl rfl (hts (.initialized RX7) (List.mem_of_getElem? (i := 51) rfl)) (hts (.methodLink RX11 37 yX7_init) (List.mem_of_getElem? (i := 87) rfl)) (hts (.instanceMethod yX7_init) (List.mem_of_getElem? (i := 86) rfl)) rfl (by decide +kernel) ⟨Nat.le_of_ble_eq_true rfl, Nat.le_of_ble_eq_true rfl⟩) ⟨zBW, fun U hU hW => ⟨rfl, by rw [hU], by rw [hU]; exact hPc, hE.warm hW, hDc.weaken (fun _ _ _ _ => trivial)⟩⟩ rfl rfl hl.1 rfl (lv_room (Nat.le_of_ble_eq_true rfl)) dX11_init_64 ⟨Nat.le_of_ble_eq_true rfl, Nat.le_of_ble_eq_true rfl⟩) hS (fun q _ h => hFc q h) hFc (fun u t H1 locs ht hvm h_64_17 hB hz1 hk1 hS => ?_)
  obtain ⟨q18, q19, q20, q21, q22, hP1, hD1⟩ := hB
  rw [ht] at hP1
  obtain ⟨hP, hD⟩ := va_join (wr := [(h0, .inr (11, [.ref q3, .ref q6, .ref q13, .null])), (q3, .inr (0, [.ref q5, .int 0])), (q5, .inl (cP, 8, .inr (.inr (.inr (.inr (fun _ => none)))))), (q6, .inr (2, [.ref q8, .ref q9, .ref q10])), (q8, .inl (cI, 8, .inl (fun _ => 0))), (q9, .inl (cI, 4, .inl q11)), (q10, .inl (cI, 80, .inl (fun _ => 0))), (q13, .inr (6, [.ref q3, .ref q1, .ref q15, .int 0]))]) (w1 := [(q16, .inr (7, [.ref q3, .ref q6, .ref q18, .ref q19, .ref q20, .ref q21, .int 0, .int 0, .int 0, .int 0])), (q19, .inr (10, [.int 0, .int 0, .int 0, .int 0, .int 0, .int 0, .ref q22])), (q22, .inl (cI, 4, .inl (fun _ => 0)))]) hP hD [8] [0, 1, 2, 3, 4, 5, 6, 7] rfl rfl (by decide) (by decide) hk1 hFc hP1 hD1
  generalize H1 = H at hP hS ⊢
  have hP : va_P D vwCl [(h0, .inr (11, [.ref q3, .ref q6, .ref q13, .null])), (q3, .inr (0, [.ref q5, .int 0])), (q5, .inl (cP, 8, .inr (.inr (.inr (.inr (fun _ => none)))))), (q6, .inr (2, [.ref q8, .ref q9, .ref q10])), (q8, .inl (cI, 8, .inl (fun _ => 0))), (q9, .inl (cI, 4, .inl q11)), (q10, .inl (cI, 80, .inl (fun _ => 0))), (q13, .inr (6, [.ref q3, .ref q1, .ref q15, .int 0])), (q16, .inr (7, [.ref q3, .ref q6, .ref q18, .ref q19, .ref q20, .ref q21, .int 0, .int 0, .int 0, .int 0])), (q19, .inr (10, [.int 0, .int 0, .int 0, .int 0, .int 0, .int 0, .ref q22])), (q22, .inl (cI, 4, .inl (fun _ => 0)))] H := hP
  have hD : va_D A [(h0, .inr (11, [.ref q3, .ref q6, .ref q13, .null])), (q3, .inr (0, [.ref q5, .int 0])), (q5, .inl (cP, 8, .inr (.inr (.inr (.inr (fun _ => none)))))), (q6, .inr (2, [.ref q8, .ref q9, .ref q10])), (q8, .inl (cI, 8, .inl (fun _ => 0))), (q9, .inl (cI, 4, .inl q11)), (q10, .inl (cI, 80, .inl (fun _ => 0))), (q13, .inr (6, [.ref q3, .ref q1, .ref q15, .int 0])), (q16, .inr (7, [.ref q3, .ref q6, .ref q18, .ref q19, .ref q20, .ref q21, .int 0, .int 0, .int 0, .int 0])), (q19, .inr (10, [.int 0, .int 0, .int 0, .int 0, .int 0, .int 0, .ref q22])), (q22, .inl (cI, 4, .inl (fun _ => 0)))] := hD
  refine va_putF (D := D) (ci := 11) (v := .ref q16) (ty := .object "TemplateForge$Machine") (C := RX11) (T := TX11) (N := 4) hx hb hts (fun _ h => List.mem_cons_of_mem _ (List.mem_append_left _ (List.mem_append_left _ (List.mem_append_left _ (List.mem_append_left _ (List.mem_append_left _ (List.mem_append_left _ (List.mem_append_right _ h)))))))) tyX11 tyX11_ok nmX11 hown hK hP hD hS 0 rfl rfl 3 (by decide) (hts (.fieldLink RX11 40 "TemplateForge" "machine" "LTemplateForge$Machine;") (List.mem_of_getElem? (i := 88) rfl)) (fun _ h9 => h9) rfl hin rfl (by decide +kernel) rfl rfl (Nat.le_of_ble_eq_true rfl) dX11_init_67 (fun H locs hP hD hS => ?_)
  have hP : va_P D vwCl [(h0, .inr (11, [.ref q3, .ref q6, .ref q13, .ref q16])), (q3, .inr (0, [.ref q5, .int 0])), (q5, .inl (cP, 8, .inr (.inr (.inr (.inr (fun _ => none)))))), (q6, .inr (2, [.ref q8, .ref q9, .ref q10])), (q8, .inl (cI, 8, .inl (fun _ => 0))), (q9, .inl (cI, 4, .inl q11)), (q10, .inl (cI, 80, .inl (fun _ => 0))), (q13, .inr (6, [.ref q3, .ref q1, .ref q15, .int 0])), (q16, .inr (7, [.ref q3, .ref q6, .ref q18, .ref q19, .ref q20, .ref q21, .int 0, .int 0, .int 0, .int 0])), (q19, .inr (10, [.int 0, .int 0, .int 0, .int 0, .int 0, .int 0, .ref q22])), (q22, .inl (cI, 4, .inl (fun _ => 0)))] H := hP
  have hD : va_D A [(h0, .inr (11, [.ref q3, .ref q6, .ref q13, .ref q16])), (q3, .inr (0, [.ref q5, .int 0])), (q5, .inl (cP, 8, .inr (.inr (.inr (.inr (fun _ => none)))))), (q6, .inr (2, [.ref q8, .ref q9, .ref q10])), (q8, .inl (cI, 8, .inl (fun _ => 0))), (q9, .inl (cI, 4, .inl q11)), (q10, .inl (cI, 80, .inl (fun _ => 0))), (q13, .inr (6, [.ref q3, .ref q1, .ref q15, .int 0])), (q16, .inr (7, [.ref q3, .ref q6, .ref q18, .ref q19, .ref q20, .ref q21, .int 0, .int 0, .int 0, .int 0])), (q19, .inr (10, [.int 0, .int 0, .int 0, .int 0, .int 0, .int 0, .ref q22])), (q22, .inl (cI, 4, .inl (fun _ => 0)))] := hD
  have hP9 := hP.sub (ws' := [(h0, .inr (11, [.ref q3, .ref q6, .ref q13, .ref q16])), (q3, .inr (0, [.ref q5, .int 0])), (q5, .inl (cP, 8, .inr (.inr (.inr (.inr (fun _ => none)))))), (q6, .inr (2, [.ref q8, .ref q9, .ref q10])), (q8, .inl (cI, 8, .inl (fun _ => 0))), (q9, .inl (cI, 4, .inl q11)), (q10, .inl (cI, 80, .inl (fun _ => 0))), (q13, .inr (6, [.ref q3, .ref q1, .ref q15, .int 0])), (q16, .inr (7, [.ref q3, .ref q6, .ref q18, .ref q19, .ref q20, .ref q21, .int 0, .int 0, .int 0, .int 0])), (q19, .inr (10, [.int 0, .int 0, .int 0, .int 0, .int 0, .int 0, .ref q22])), (q22, .inl (cI, 4, .inl (fun _ => 0)))]) [0, 1, 2, 3, 4, 5, 6, 7, 8, 9, 10] rfl
  have hD9 := hD.sub (ws' := [(h0, .inr (11, [.ref q3, .ref q6, .ref q13, .ref q16])), (q3, .inr (0, [.ref q5, .int 0])), (q5, .inl (cP, 8, .inr (.inr (.inr (.inr (fun _ => none)))))), (q6, .inr (2, [.ref q8, .ref q9, .ref q10])), (q8, .inl (cI, 8, .inl (fun _ => 0))), (q9, .inl (cI, 4, .inl q11)), (q10, .inl (cI, 80, .inl (fun _ => 0))), (q13, .inr (6, [.ref q3, .ref q1, .ref q15, .int 0])), (q16, .inr (7, [.ref q3, .ref q6, .ref q18, .ref q19, .ref q20, .ref q21, .int 0, .int 0, .int 0, .int 0])), (q19, .inr (10, [.int 0, .int 0, .int 0, .int 0, .int 0, .int 0, .ref q22])), (q22, .inl (cI, 4, .inl (fun _ => 0)))]) [0, 1, 2, 3, 4, 5, 6, 7, 8, 9, 10] (by decide) rfl
  refine W.widen (k := 53) (n := 8253) (Nat.le_of_ble_eq_true rfl) (Nat.le_of_ble_eq_true rfl) ?_
  exact W.vret hx hb hr (fun t ht hW => ⟨⟨(), rfl, trivial, q3, q6, q13, q16, q5, q8, q9, q10, q11, q1, q15, q18, q19, q20, q21, q22, hM_12, by rw [ht]; exact hP9, hD9⟩, hS.F ht⟩) hS.2.2 dX11_init_70
