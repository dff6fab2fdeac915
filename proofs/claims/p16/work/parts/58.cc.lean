theorem zt_14_16 (x : Int32) : (x.toInt < 14 ∨ 16 < x.toInt) ∨ x = 14 ∨ x = 15 ∨ x = 16 := by
  by_cases h : x.toInt < 14 ∨ 16 < x.toInt
  · exact Or.inl h
  · right
    have e : ∀ c : Int32, x.toInt = c.toInt → x = c := fun c hc => Int32.toInt.inj hc
    rcases (show x.toInt = 14 ∨ x.toInt = 15 ∨ x.toInt = 16 by omega) with h | h | h
    · exact (Or.inl (e 14 (by rw [h]; decide)))
    · exact (Or.inr (Or.inl (e 15 (by rw [h]; decide))))
    · exact (Or.inr (Or.inr (e 16 (by rw [h]; decide))))
def wp_X7_endByTrap (S : CST) (i1 : Nat) (a2 : Int32) (a3 : Int32) (Post : CST → Prop) : Prop :=
  ∀ S2 : CST, S2 = cs S 127 0 (fun _ => 1) → (cin S2 22 i1 ∧ (((cv S2 220 i1 0) < 0) → (False)) ∧ ((¬ ((cv S2 220 i1 0) < 0)) → (cin S2 24 (((cv S2 220 i1 0) : Int32).toNatClampNeg) ∧ (wp_X10_noteTrap S2 a2 (cv S2 240 (((cv S2 220 i1 0) : Int32).toNatClampNeg) 0) a3 (cv S2 126 0 0) (fun S9 => Post S9)))))
def zw_zd_X7_endByTrap_w0 : List Cond := [.fieldLink RX7 53 "TemplateForge$Machine" "ending" "I", .fieldLink RX7 12 "TemplateForge$Machine" "tally" "LTemplateForge$Tally;", .fieldLink RX7 84 "TemplateForge$Frame" "program" "LTemplateForge$Program;", .fieldLink RX7 244 "TemplateForge$Program" "number" "I", .fieldLink RX7 49 "TemplateForge$Machine" "open" "I", .code yX10_noteTrap cX10_noteTrap 5 none, .fieldLink RX10 9 "TemplateForge$Tally" "trap" "[I", .methodLink RX7 247 yX10_noteTrap, .instanceMethod yX10_noteTrap, .selects RX10 yX10_noteTrap yX10_noteTrap, .initialized RX10]
def zw_zd_X7_endByTrap : List Cond := .code yX7_endByTrap cX7_endByTrap 4 none :: ((zw_zd_X7_endByTrap_w0) ++ wsX70 ++ wsX40 ++ wsX80 ++ wsX100)
set_option maxRecDepth 100000 in
theorem zg_zd_X7_endByTrap_zd_X10_noteTrap_247_a : GoodIn zw_zd_X7_endByTrap [.methodLink RX7 247 yX10_noteTrap, .instanceMethod yX10_noteTrap, .selects RX10 yX10_noteTrap yX10_noteTrap, .initialized RX10] := goodIn_r _ [8, 9, 10, 11] rfl (by decide +kernel)
set_option maxRecDepth 100000 in
theorem zg_zd_X7_endByTrap_zd_X10_noteTrap_247_c : GoodIn zw_zd_X7_endByTrap [.code yX10_noteTrap cX10_noteTrap 5 none] := goodIn_r _ [6] rfl (by decide +kernel)
set_option maxRecDepth 100000 in
theorem zg_zd_X7_endByTrap_zd_X10_noteTrap_247_0 : GoodIn zw_zd_X7_endByTrap zw_zd_X10_noteTrap_w0 := goodIn_r _ [7] rfl (by decide +kernel)
theorem zg_zd_X7_endByTrap_zd_X10_noteTrap_247 : GoodIn zw_zd_X7_endByTrap (wsV RX7 247 RX10 yX10_noteTrap zw_zd_X10_noteTrap) := goodIn_app zg_zd_X7_endByTrap_zd_X10_noteTrap_247_a (goodIn_ca (a := (zw_zd_X10_noteTrap_w0)) (show GoodIn zw_zd_X7_endByTrap (.code yX10_noteTrap cX10_noteTrap 5 none :: (zw_zd_X10_noteTrap_w0)) from goodIn_app zg_zd_X7_endByTrap_zd_X10_noteTrap_247_c (zg_zd_X7_endByTrap_zd_X10_noteTrap_247_0)) (fun w h => ⟨(fun _ h => List.mem_cons_of_mem _ (List.mem_append_right _ h)) w h, good_of_word (List.all_eq_true.mp zgw_X10 w h)⟩))
set_option maxHeartbeats 16000000 in
set_option maxRecDepth 100000 in
theorem zd_X7_endByTrap (l : Launch) (D : va_G) (cI cZ cP cF : Nat) (q : Nat → Nat → Nat) (S : CST) (i1 : Nat) (a2 : Int32) (a3 : Int32) (sz : Nat) (Post : CST → Prop) (h : wp_X7_endByTrap S i1 a2 a3 Post) : Met l yX7_endByTrap zw_zd_X7_endByTrap ({ frames := 1, cells := 0, slots := 0, locals := 24 }) (va_Pc [.ref (q 12 0), .ref (q 22 i1), .int a2, .int a3] (fun U => U.heap.size = sz ∧ va_P D vwCl (cW cI cZ cP cF q S) U.heap ∧ zF D cI cZ cP cF U ∧ va_D (fun _ => True) (cW cI cZ cP cF q S))) (va_Qv (fun S' => Post S') (fun (S' : CST) t => va_P D vwCl (cW cI cZ cP cF q S') t.heap ∧ va_D (va_A (cW cI cZ cP cF q S) sz) (cW cI cZ cP cF q S') ∧ S'.2 = S.2) (va_A (cW cI cZ cP cF q S) sz)) 0 0 (va_A (cW cI cZ cP cF q S) sz) := by
  unfold wp_X7_endByTrap at h
  refine Met.ofW (cc := cX7_endByTrap) (maxL := 4) (ret := none) (by decide) rfl ?_
  intro p e s m args below meth c s₁ B hml hv
  obtain ⟨rfl, hsz, hP, hE, hD0⟩ := hv
  have hx := B.exec
  have hb := B.bytes
  have hr := B.returns
  have hts := atoms_spec (ws := zw_zd_X7_endByTrap) B.pre
  have hown : s.vm.findClass RX7 = some m.cls := findClass_of_methodNamed B.named
  have hlocks := B.notSynchronized
  have hK := hE.k
  subst hsz
  have hD := hD0.self (sz := s.heap.size)
  generalize hAe : va_A (cW cI cZ cP cF q S) s.heap.size = A at hD ⊢
  have hA : ∀ q : Nat, s.heap.size ≤ q → A q := fun q h => by rw [← hAe]; exact Or.inr h
  have hN : S.2 = S.2 := rfl
  have hl := lv_entry ([.ref (q 12 0), .ref (q 22 i1), .int a2, .int a3]) (n := 4) (Nat.le_of_ble_eq_true rfl)
  rw [lg_entry_eq]
  generalize (lg_sl ([.ref (q 12 0), .ref (q 22 i1), .int a2, .int a3]) ++ List.replicate (4 - (lg_sl ([.ref (q 12 0), .ref (q 22 i1), .int a2, .int a3])).length) Slot.unset).toArray = ls at hl ⊢
  have hl : lv_has ls 4 [(0, .ref (q 12 0)), (1, .ref (q 22 i1)), (2, .int a2), (3, .int a3)] := hl
  have key : ∀ (H : Heap) (locs : List Loc), va_P D vwCl (cW cI cZ cP cF q S) H → va_S A s.heap H locs → W p l e (headSpec zw_zd_X7_endByTrap ({ frames := 1, cells := 0, slots := 0, locals := 24 })).room s m ([.ref (q 12 0), .ref (q 22 i1), .int a2, .int a3] : List Value).toArray below meth c H locs 0 0 (MQ below (va_Qv (fun S' => Post S') (fun (S' : CST) t => va_P D vwCl (cW cI cZ cP cF q S') t.heap ∧ va_D A (cW cI cZ cP cF q S') ∧ S'.2 = S.2) A) ([.ref (q 12 0), .ref (q 22 i1), .int a2, .int a3] : List Value).toArray s 0 0 A) (F0 m 0 ls []) := by
    intro H locs hP hS
    refine lv_aload_n hx hb dX7_endByTrap_0 rfl (lv_at hl 0 rfl) ?_
    refine lv_iconst (v := 1) hx hb dX7_endByTrap_1 (by decide) ?_
    obtain ⟨p_1, hp_1⟩ := cget_12 cI cZ cP cF q S
    have hi_1 : cin S 12 0 := Or.inl ⟨by decide, rfl⟩
    have hD0_1 := hD
    refine va_put (D := D) (ci := 7) (v := .int 1) (ty := .int) (C := RX7) (T := TX7) (N := 10) hx hb hts (fun _ h => List.mem_cons_of_mem _ (List.mem_append_left _ (List.mem_append_left _ (List.mem_append_left _ (List.mem_append_right _ h))))) tyX7 tyX7_ok nmX7 hown hK hP hD hS p_1 hp_1 rfl 7 (by decide) (hts (.fieldLink RX7 53 "TemplateForge$Machine" "ending" "I") (List.mem_of_getElem? (i := 1) rfl)) (fun _ h9 => h9) rfl (by decide +kernel) rfl rfl (Nat.le_of_ble_eq_true rfl) dX7_endByTrap_2 (fun H locs hP hD hS => ?_)
    obtain ⟨S2, eS2⟩ : ∃ z, z = cs S 127 0 (fun _ => 1) := ⟨_, rfl⟩
    have hP : va_P D vwCl (cW cI cZ cP cF q S2) H := by rw [eS2, ← cW_put (k := 127) (κ := 12) (i := 0) (g := (fun _ => 1)) rfl hD0_1 hp_1 hi_1, cput_127]; exact hP
    have hD : va_D A (cW cI cZ cP cF q S2) := by rw [eS2, ← cW_put (k := 127) (κ := 12) (i := 0) (g := (fun _ => 1)) rfl hD0_1 hp_1 hi_1, cput_127]; exact hD
    have hN : S2.2 = S.2 := by rw [eS2]; exact hN
    have h := h S2 eS2
    refine lv_aload_n hx hb dX7_endByTrap_5 rfl (lv_at hl 0 rfl) ?_
    obtain ⟨p_3, hp_3⟩ := cget_12 cI cZ cP cF q S2
    have hi_3 : cin S2 12 0 := Or.inl ⟨by decide, rfl⟩
    refine va_get (D := D) (ci := 7) (v := .ref (q 20 0)) (C := RX7) (T := TX7) (N := 10) hx hb hts (fun _ h => List.mem_cons_of_mem _ (List.mem_append_left _ (List.mem_append_left _ (List.mem_append_left _ (List.mem_append_right _ h))))) hown hK hP p_3 hp_3 rfl 3 (by decide) (hts (.fieldLink RX7 12 "TemplateForge$Machine" "tally" "LTemplateForge$Tally;") (List.mem_of_getElem? (i := 2) rfl)) (fun _ h9 => h9) rfl dX7_endByTrap_6 ?_
    refine lv_iload_n hx hb dX7_endByTrap_9 rfl (lv_at hl 2 rfl) ?_
    refine lv_aload_n hx hb dX7_endByTrap_10 rfl (lv_at hl 1 rfl) ?_
    have hi_4 := h.1
    have h := h.2
    obtain ⟨p_4, hp_4⟩ := cget_22 cI cZ cP cF q S2 hi_4
    by_cases hn_5 : (cv S2 220 i1 0) < 0
    · have h := h.1 hn_5
      refine va_get (D := D) (ci := 4) (v := .null) (C := RX4) (T := TX4) (N := 5) hx hb hts (fun _ h => List.mem_cons_of_mem _ (List.mem_append_left _ (List.mem_append_left _ (List.mem_append_right _ h)))) hown hK hP p_4 hp_4 rfl 0 (by decide) (hts (.fieldLink RX7 84 "TemplateForge$Frame" "program" "LTemplateForge$Program;") (List.mem_of_getElem? (i := 3) rfl)) (fun _ h9 => h9) (congrArg some (cn_neg hn_5)) dX7_endByTrap_11 ?_
      exact h.elim
    · have h := h.2 hn_5
      refine va_get (D := D) (ci := 4) (v := .ref (q 24 ((cv S2 220 i1 0) : Int32).toNatClampNeg)) (C := RX4) (T := TX4) (N := 5) hx hb hts (fun _ h => List.mem_cons_of_mem _ (List.mem_append_left _ (List.mem_append_left _ (List.mem_append_right _ h)))) hown hK hP p_4 hp_4 rfl 0 (by decide) (hts (.fieldLink RX7 84 "TemplateForge$Frame" "program" "LTemplateForge$Program;") (List.mem_of_getElem? (i := 3) rfl)) (fun _ h9 => h9) (congrArg some (cn_pos hn_5)) dX7_endByTrap_11 ?_
      have hi_6 := h.1
      have h := h.2
      obtain ⟨p_6, hp_6⟩ := cget_24 cI cZ cP cF q S2 hi_6
      refine va_get (D := D) (ci := 8) (v := .int (cv S2 240 (((cv S2 220 i1 0) : Int32).toNatClampNeg) 0)) (C := RX8) (T := TX8) (N := 10) hx hb hts (fun _ h => List.mem_cons_of_mem _ (List.mem_append_left _ (List.mem_append_right _ h))) hown hK hP p_6 hp_6 rfl 0 (by decide) (hts (.fieldLink RX7 244 "TemplateForge$Program" "number" "I") (List.mem_of_getElem? (i := 4) rfl)) (fun _ h9 => h9) rfl dX7_endByTrap_14 ?_
      refine lv_iload_n hx hb dX7_endByTrap_17 rfl (lv_at hl 3 rfl) ?_
      refine lv_aload_n hx hb dX7_endByTrap_18 rfl (lv_at hl 0 rfl) ?_
      obtain ⟨p_7, hp_7⟩ := cget_12 cI cZ cP cF q S2
      have hi_7 : cin S2 12 0 := Or.inl ⟨by decide, rfl⟩
      refine va_get (D := D) (ci := 7) (v := .int (cv S2 126 0 0)) (C := RX7) (T := TX7) (N := 10) hx hb hts (fun _ h => List.mem_cons_of_mem _ (List.mem_append_left _ (List.mem_append_left _ (List.mem_append_left _ (List.mem_append_right _ h))))) hown hK hP p_7 hp_7 rfl 6 (by decide) (hts (.fieldLink RX7 49 "TemplateForge$Machine" "open" "I") (List.mem_of_getElem? (i := 5) rfl)) (fun _ h9 => h9) rfl dX7_endByTrap_19 ?_
      obtain ⟨p_8, hp_8⟩ := cget_20 cI cZ cP cF q S2
      have hi_8 : cin S2 20 0 := Or.inl ⟨by decide, rfl⟩
      have hFc := zm_free hD hS hA
      refine va_callv (va_runV (As := [.int a2, .int (cv S2 240 (((cv S2 220 i1 0) : Int32).toNatClampNeg) 0), .int a3, .int (cv S2 126 0 0)]) (rest := []) ⟨hx, hb, hml, hown, hts⟩ (zd_X10_noteTrap l D cI cZ cP cF q S2 a2 (cv S2 240 (((cv S2 220 i1 0) : Int32).toNatClampNeg) 0) a3 (cv S2 126 0 0) H.size _ h) (cwV 4 hts zg_zd_X7_endByTrap_zd_X10_noteTrap_247 rfl rfl rfl (by decide +kernel) ⟨Nat.le_of_ble_eq_true rfl, Nat.le_of_ble_eq_true rfl⟩) ⟨zCW, va_recv hK hP (ci := 10) (q0 := p_8) rfl hp_8, fun U hU hW => ⟨rfl, by rw [hU], by rw [hU]; exact hP, hE.warm hW, hD.weaken (fun _ _ _ _ => trivial)⟩⟩ rfl rfl hl.1 rfl (lv_room (Nat.le_of_ble_eq_true rfl)) dX7_endByTrap_22 ⟨Nat.le_of_ble_eq_true rfl, Nat.le_of_ble_eq_true rfl⟩) hS (fun q _ h => hFc q h) hFc (fun S9 t H locs ht hvm h hB hz1 hk1 hS => ?_)
      obtain ⟨hP, hD1, hN1⟩ := hB
      rw [ht] at hP
      have hD := hD1.weaken (fun k q _ hq => hFc q.1 hq)
      have hN := hN1.trans hN
      exact W.vret hx hb hr (fun t ht hW => ⟨⟨S9, rfl, h, by rw [ht]; exact hP, hD, hN⟩, hS.F ht⟩) hS.2.2 dX7_endByTrap_25
  exact key _ _ hP va_S.rf

def wp_X7_goTo (S : CST) (i1 : Nat) (a2 : Int32) (a3 : Int32) (Post : CST → Prop) : Prop :=
  ((a3 < a2) → (cin S 22 i1 ∧ (((cv S 221 i1 0) < 0) → (False)) ∧ ((¬ ((cv S 221 i1 0) < 0)) → (cin S 32 (((cv S 221 i1 0) : Int32).toNatClampNeg) ∧ (wp_X1_startOf S (((cv S 221 i1 0) : Int32).toNatClampNeg) a2 (fun r5 => cin S 22 i1 ∧ (∀ S7 : CST, S7 = cs S 222 i1 (fun _ => r5) → (Post S7)))))))) ∧ ((¬ (a3 < a2)) → (wp_X7_stepOn S  (fun S9 => cin S9 22 i1 ∧ (((cv S9 221 i1 0) < 0) → (False)) ∧ ((¬ ((cv S9 221 i1 0) < 0)) → (cin S9 32 (((cv S9 221 i1 0) : Int32).toNatClampNeg) ∧ (wp_X1_startOf S9 (((cv S9 221 i1 0) : Int32).toNatClampNeg) a2 (fun r13 => cin S9 22 i1 ∧ (∀ S15 : CST, S15 = cs S9 222 i1 (fun _ => r13) → (Post S15)))))))))
def zw_zd_X7_goTo_w0 : List Cond := [.fieldLink RX7 94 "TemplateForge$Frame" "code" "LTemplateForge$Code;", .code yX1_startOf cX1_startOf 2 (some .int), .code yX1_parts cX1_parts 1 (some .int), .fieldLink RX1 18 "TemplateForge$Code" "cells" "[I", .methodLink RX1 25 yX1_parts, .instanceMethod yX1_parts, .selects RX1 yX1_parts yX1_parts, .initialized RX1, .fieldLink RX1 22 "TemplateForge$Code" "starts" "[I", .methodLink RX7 212 yX1_startOf, .instanceMethod yX1_startOf, .selects RX1 yX1_startOf yX1_startOf, .fieldLink RX7 97 "TemplateForge$Frame" "place" "I", .code yX7_stepOn cX7_stepOn 1 none, .fieldLink RX7 12 "TemplateForge$Machine" "tally" "LTemplateForge$Tally;", .fieldLink RX7 150 "TemplateForge$Tally" "steps" "I"]
def zw_zd_X7_goTo_w1 : List Cond := [.fieldLink RX7 53 "TemplateForge$Machine" "ending" "I", .methodLink RX7 78 yX7_stepOn, .instanceMethod yX7_stepOn, .selects RX7 yX7_stepOn yX7_stepOn, .initialized RX7]
def zw_zd_X7_goTo : List Cond := .code yX7_goTo cX7_goTo 4 none :: ((zw_zd_X7_goTo_w0 ++ (zw_zd_X7_goTo_w1)) ++ wsX40 ++ wsX10 ++ wsX70 ++ wsX100)
set_option maxRecDepth 100000 in
theorem zg_zd_X7_goTo_zd_X1_startOf_212_a : GoodIn zw_zd_X7_goTo [.methodLink RX7 212 yX1_startOf, .instanceMethod yX1_startOf, .selects RX1 yX1_startOf yX1_startOf, .initialized RX1] := goodIn_r _ [10, 11, 12, 8] rfl (by decide +kernel)
set_option maxRecDepth 100000 in
theorem zg_zd_X7_goTo_zd_X1_startOf_212_c : GoodIn zw_zd_X7_goTo [.code yX1_startOf cX1_startOf 2 (some .int)] := goodIn_r _ [2] rfl (by decide +kernel)
set_option maxRecDepth 100000 in
theorem zg_zd_X7_goTo_zd_X1_startOf_212_0 : GoodIn zw_zd_X7_goTo zw_zd_X1_startOf_w0 := goodIn_r _ [3, 4, 5, 6, 7, 8, 9] rfl (by decide +kernel)
theorem zg_zd_X7_goTo_zd_X1_startOf_212 : GoodIn zw_zd_X7_goTo (wsV RX7 212 RX1 yX1_startOf zw_zd_X1_startOf) := goodIn_app zg_zd_X7_goTo_zd_X1_startOf_212_a (goodIn_ca (a := (zw_zd_X1_startOf_w0)) (show GoodIn zw_zd_X7_goTo (.code yX1_startOf cX1_startOf 2 (some .int) :: (zw_zd_X1_startOf_w0)) from goodIn_app zg_zd_X7_goTo_zd_X1_startOf_212_c (zg_zd_X7_goTo_zd_X1_startOf_212_0)) (fun w h => ⟨(fun _ h => List.mem_cons_of_mem _ (List.mem_append_left _ (List.mem_append_left _ (List.mem_append_right _ h)))) w h, good_of_word (List.all_eq_true.mp zgw_X1 w h)⟩))
set_option maxRecDepth 100000 in
theorem zg_zd_X7_goTo_zd_X7_stepOn_78_a : GoodIn zw_zd_X7_goTo [.methodLink RX7 78 yX7_stepOn, .instanceMethod yX7_stepOn, .selects RX7 yX7_stepOn yX7_stepOn, .initialized RX7] := goodIn_r _ [18, 19, 20, 21] rfl (by decide +kernel)
set_option maxRecDepth 100000 in
theorem zg_zd_X7_goTo_zd_X7_stepOn_78_c : GoodIn zw_zd_X7_goTo [.code yX7_stepOn cX7_stepOn 1 none] := goodIn_r _ [14] rfl (by decide +kernel)
set_option maxRecDepth 100000 in
theorem zg_zd_X7_goTo_zd_X7_stepOn_78_0 : GoodIn zw_zd_X7_goTo zw_zd_X7_stepOn_w0 := goodIn_r _ [15, 16, 17] rfl (by decide +kernel)
theorem zg_zd_X7_goTo_zd_X7_stepOn_78 : GoodIn zw_zd_X7_goTo (wsV RX7 78 RX7 yX7_stepOn zw_zd_X7_stepOn) := goodIn_app zg_zd_X7_goTo_zd_X7_stepOn_78_a (goodIn_ca (a := ((zw_zd_X7_stepOn_w0) ++ wsX70)) (goodIn_ca (a := (zw_zd_X7_stepOn_w0)) (show GoodIn zw_zd_X7_goTo (.code yX7_stepOn cX7_stepOn 1 none :: (zw_zd_X7_stepOn_w0)) from goodIn_app zg_zd_X7_goTo_zd_X7_stepOn_78_c (zg_zd_X7_goTo_zd_X7_stepOn_78_0)) (fun w h => ⟨(fun _ h => List.mem_cons_of_mem _ (List.mem_append_left _ (List.mem_append_right _ h))) w h, good_of_word (List.all_eq_true.mp zgw_X7 w h)⟩)) (fun w h => ⟨(fun _ h => List.mem_cons_of_mem _ (List.mem_append_right _ h)) w h, good_of_word (List.all_eq_true.mp zgw_X10 w h)⟩))
set_option maxHeartbeats 16000000 in
set_option maxRecDepth 100000 in
theorem zd_X7_goTo (l : Launch) (D : va_G) (cI cZ cP cF : Nat) (q : Nat → Nat → Nat) (S : CST) (i1 : Nat) (a2 : Int32) (a3 : Int32) (sz : Nat) (Post : CST → Prop) (h : wp_X7_goTo S i1 a2 a3 Post) : Met l yX7_goTo zw_zd_X7_goTo ({ frames := 2, cells := 0, slots := 0, locals := 41 }) (va_Pc [.ref (q 12 0), .ref (q 22 i1), .int a2, .int a3] (fun U => U.heap.size = sz ∧ va_P D vwCl (cW cI cZ cP cF q S) U.heap ∧ zF D cI cZ cP cF U ∧ va_D (fun _ => True) (cW cI cZ cP cF q S))) (va_Qv (fun S' => Post S') (fun (S' : CST) t => va_P D vwCl (cW cI cZ cP cF q S') t.heap ∧ va_D (va_A (cW cI cZ cP cF q S) sz) (cW cI cZ cP cF q S') ∧ S'.2 = S.2) (va_A (cW cI cZ cP cF q S) sz)) 0 0 (va_A (cW cI cZ cP cF q S) sz) := by
  unfold wp_X7_goTo at h
  refine Met.ofW (cc := cX7_goTo) (maxL := 4) (ret := none) (by decide) rfl ?_
  intro p e s m args below meth c s₁ B hml hv
  obtain ⟨rfl, hsz, hP, hE, hD0⟩ := hv
  have hx := B.exec
  have hb := B.bytes
  have hr := B.returns
  have hts := atoms_spec (ws := zw_zd_X7_goTo) B.pre
  have hown : s.vm.findClass RX7 = some m.cls := findClass_of_methodNamed B.named
  have hlocks := B.notSynchronized
  have hK := hE.k
  subst hsz
  have hD := hD0.self (sz := s.heap.size)
  generalize hAe : va_A (cW cI cZ cP cF q S) s.heap.size = A at hD ⊢
  have hA : ∀ q : Nat, s.heap.size ≤ q → A q := fun q h => by rw [← hAe]; exact Or.inr h
  have hN : S.2 = S.2 := rfl
  have hl := lv_entry ([.ref (q 12 0), .ref (q 22 i1), .int a2, .int a3]) (n := 4) (Nat.le_of_ble_eq_true rfl)
  rw [lg_entry_eq]
  generalize (lg_sl ([.ref (q 12 0), .ref (q 22 i1), .int a2, .int a3]) ++ List.replicate (4 - (lg_sl ([.ref (q 12 0), .ref (q 22 i1), .int a2, .int a3])).length) Slot.unset).toArray = ls at hl ⊢
  have hl : lv_has ls 4 [(0, .ref (q 12 0)), (1, .ref (q 22 i1)), (2, .int a2), (3, .int a3)] := hl
  have key : ∀ (H : Heap) (locs : List Loc), va_P D vwCl (cW cI cZ cP cF q S) H → va_S A s.heap H locs → W p l e (headSpec zw_zd_X7_goTo ({ frames := 2, cells := 0, slots := 0, locals := 41 })).room s m ([.ref (q 12 0), .ref (q 22 i1), .int a2, .int a3] : List Value).toArray below meth c H locs 0 0 (MQ below (va_Qv (fun S' => Post S') (fun (S' : CST) t => va_P D vwCl (cW cI cZ cP cF q S') t.heap ∧ va_D A (cW cI cZ cP cF q S') ∧ S'.2 = S.2) A) ([.ref (q 12 0), .ref (q 22 i1), .int a2, .int a3] : List Value).toArray s 0 0 A) (F0 m 0 ls []) := by
    intro H locs hP hS
    refine lv_iload_n hx hb dX7_goTo_0 rfl (lv_at hl 2 rfl) ?_
    refine lv_iload_n hx hb dX7_goTo_1 rfl (lv_at hl 3 rfl) ?_
    refine lv_icmp_gt (tgt := 9) hx hb dX7_goTo_2 (by decide) (fun c_1 => ?_) (fun c_1 => ?_)
    · have h := h.1 c_1
      refine lv_aload_n hx hb dX7_goTo_9 rfl (lv_at hl 1 rfl) ?_
      refine lv_aload_n hx hb dX7_goTo_10 rfl (lv_at hl 1 rfl) ?_
      have hi_2 := h.1
      have h := h.2
      obtain ⟨p_2, hp_2⟩ := cget_22 cI cZ cP cF q S hi_2
      by_cases hn_3 : (cv S 221 i1 0) < 0
      · have h := h.1 hn_3
        refine va_get (D := D) (ci := 4) (v := .null) (C := RX4) (T := TX4) (N := 5) hx hb hts (fun _ h => List.mem_cons_of_mem _ (List.mem_append_left _ (List.mem_append_left _ (List.mem_append_left _ (List.mem_append_right _ h))))) hown hK hP p_2 hp_2 rfl 1 (by decide) (hts (.fieldLink RX7 94 "TemplateForge$Frame" "code" "LTemplateForge$Code;") (List.mem_of_getElem? (i := 1) rfl)) (fun _ h9 => h9) (congrArg some (cn_neg hn_3)) dX7_goTo_11 ?_
        refine lv_iload_n hx hb dX7_goTo_14 rfl (lv_at hl 2 rfl) ?_
        exact h.elim
      · have h := h.2 hn_3
        refine va_get (D := D) (ci := 4) (v := .ref (q 32 ((cv S 221 i1 0) : Int32).toNatClampNeg)) (C := RX4) (T := TX4) (N := 5) hx hb hts (fun _ h => List.mem_cons_of_mem _ (List.mem_append_left _ (List.mem_append_left _ (List.mem_append_left _ (List.mem_append_right _ h))))) hown hK hP p_2 hp_2 rfl 1 (by decide) (hts (.fieldLink RX7 94 "TemplateForge$Frame" "code" "LTemplateForge$Code;") (List.mem_of_getElem? (i := 1) rfl)) (fun _ h9 => h9) (congrArg some (cn_pos hn_3)) dX7_goTo_11 ?_
        refine lv_iload_n hx hb dX7_goTo_14 rfl (lv_at hl 2 rfl) ?_
        have hi_4 := h.1
        have h := h.2
        obtain ⟨p_4, hp_4⟩ := cget_32 cI cZ cP cF q S hi_4
        refine vp_callSi (va_Run.run (va_runV (As := [.int a2]) (rest := [.ref (q 22 i1)]) ⟨hx, hb, hml, hown, hts⟩ (zd_X1_startOf l D cI cZ cP cF q S (((cv S 221 i1 0) : Int32).toNatClampNeg) a2  _ h) (cwV 1 hts zg_zd_X7_goTo_zd_X1_startOf_212 rfl rfl rfl (by decide +kernel) ⟨Nat.le_of_ble_eq_true rfl, Nat.le_of_ble_eq_true rfl⟩) ⟨zCR, va_recv hK hP (ci := 1) (q0 := p_4) rfl hp_4, fun U hU hW => ⟨rfl, by rw [hU]; exact hP, hE.warm hW⟩⟩ rfl rfl hl.1 rfl (lv_room (Nat.le_of_ble_eq_true rfl)) dX7_goTo_15 ⟨Nat.le_of_ble_eq_true rfl, Nat.le_of_ble_eq_true rfl⟩)) (fun r5 h => ?_)
        have hi_6 := h.1
        have h := h.2
        obtain ⟨p_6, hp_6⟩ := cget_22 cI cZ cP cF q S hi_6
        have hD0_6 := hD
        refine va_put (D := D) (ci := 4) (v := .int r5) (ty := .int) (C := RX4) (T := TX4) (N := 5) hx hb hts (fun _ h => List.mem_cons_of_mem _ (List.mem_append_left _ (List.mem_append_left _ (List.mem_append_left _ (List.mem_append_right _ h))))) tyX4 tyX4_ok nmX4 hown hK hP hD hS p_6 hp_6 rfl 2 (by decide) (hts (.fieldLink RX7 97 "TemplateForge$Frame" "place" "I") (List.mem_of_getElem? (i := 13) rfl)) (fun _ h9 => h9) rfl (by decide +kernel) rfl rfl (Nat.le_of_ble_eq_true rfl) dX7_goTo_18 (fun H locs hP hD hS => ?_)
        obtain ⟨S7, eS7⟩ : ∃ z, z = cs S 222 i1 (fun _ => r5) := ⟨_, rfl⟩
        have hP : va_P D vwCl (cW cI cZ cP cF q S7) H := by rw [eS7, ← cW_put (k := 222) (κ := 22) (i := i1) (g := (fun _ => r5)) rfl hD0_6 hp_6 hi_6, cput_222]; exact hP
        have hD : va_D A (cW cI cZ cP cF q S7) := by rw [eS7, ← cW_put (k := 222) (κ := 22) (i := i1) (g := (fun _ => r5)) rfl hD0_6 hp_6 hi_6, cput_222]; exact hD
        have hN : S7.2 = S.2 := by rw [eS7]; exact hN
        have h := h S7 eS7
        exact W.vret hx hb hr (fun t ht hW => ⟨⟨S7, rfl, h, by rw [ht]; exact hP, hD, hN⟩, hS.F ht⟩) hS.2.2 dX7_goTo_21
    · have h := h.2 c_1
      refine lv_aload_n hx hb dX7_goTo_5 rfl (lv_at hl 0 rfl) ?_
      obtain ⟨p_8, hp_8⟩ := cget_12 cI cZ cP cF q S
      have hi_8 : cin S 12 0 := Or.inl ⟨by decide, rfl⟩
      have hFc := zm_free hD hS hA
      refine va_callv (va_runV (As := []) (rest := []) ⟨hx, hb, hml, hown, hts⟩ (zd_X7_stepOn l D cI cZ cP cF q S  H.size _ h) (cwV 0 hts zg_zd_X7_goTo_zd_X7_stepOn_78 rfl rfl rfl (by decide +kernel) ⟨Nat.le_of_ble_eq_true rfl, Nat.le_of_ble_eq_true rfl⟩) ⟨zCW, va_recv hK hP (ci := 7) (q0 := p_8) rfl hp_8, fun U hU hW => ⟨rfl, by rw [hU], by rw [hU]; exact hP, hE.warm hW, hD.weaken (fun _ _ _ _ => trivial)⟩⟩ rfl rfl hl.1 rfl (lv_room (Nat.le_of_ble_eq_true rfl)) dX7_goTo_6 ⟨Nat.le_of_ble_eq_true rfl, Nat.le_of_ble_eq_true rfl⟩) hS (fun q _ h => hFc q h) hFc (fun S9 t H locs ht hvm h hB hz1 hk1 hS => ?_)
      obtain ⟨hP, hD1, hN1⟩ := hB
      rw [ht] at hP
      have hD := hD1.weaken (fun k q _ hq => hFc q.1 hq)
      have hN := hN1.trans hN
      refine lv_aload_n hx hb dX7_goTo_9 rfl (lv_at hl 1 rfl) ?_
      refine lv_aload_n hx hb dX7_goTo_10 rfl (lv_at hl 1 rfl) ?_
      have hi_10 := h.1
      have h := h.2
      obtain ⟨p_10, hp_10⟩ := cget_22 cI cZ cP cF q S9 hi_10
      by_cases hn_11 : (cv S9 221 i1 0) < 0
      · have h := h.1 hn_11
        refine va_get (D := D) (ci := 4) (v := .null) (C := RX4) (T := TX4) (N := 5) hx hb hts (fun _ h => List.mem_cons_of_mem _ (List.mem_append_left _ (List.mem_append_left _ (List.mem_append_left _ (List.mem_append_right _ h))))) hown hK hP p_10 hp_10 rfl 1 (by decide) (hts (.fieldLink RX7 94 "TemplateForge$Frame" "code" "LTemplateForge$Code;") (List.mem_of_getElem? (i := 1) rfl)) (fun _ h9 => h9) (congrArg some (cn_neg hn_11)) dX7_goTo_11 ?_
        refine lv_iload_n hx hb dX7_goTo_14 rfl (lv_at hl 2 rfl) ?_
        exact h.elim
      · have h := h.2 hn_11
        refine va_get (D := D) (ci := 4) (v := .ref (q 32 ((cv S9 221 i1 0) : Int32).toNatClampNeg)) (C := RX4) (T := TX4) (N := 5) hx hb hts (fun _ h => List.mem_cons_of_mem _ (List.mem_append_left _ (List.mem_append_left _ (List.mem_append_left _ (List.mem_append_right _ h))))) hown hK hP p_10 hp_10 rfl 1 (by decide) (hts (.fieldLink RX7 94 "TemplateForge$Frame" "code" "LTemplateForge$Code;") (List.mem_of_getElem? (i := 1) rfl)) (fun _ h9 => h9) (congrArg some (cn_pos hn_11)) dX7_goTo_11 ?_
        refine lv_iload_n hx hb dX7_goTo_14 rfl (lv_at hl 2 rfl) ?_
        have hi_12 := h.1
        have h := h.2
        obtain ⟨p_12, hp_12⟩ := cget_32 cI cZ cP cF q S9 hi_12
        refine vp_callSi (va_Run.run (va_runV (As := [.int a2]) (rest := [.ref (q 22 i1)]) ⟨hx, hb, hml, hown, hts⟩ (zd_X1_startOf l D cI cZ cP cF q S9 (((cv S9 221 i1 0) : Int32).toNatClampNeg) a2  _ h) (cwV 1 hts zg_zd_X7_goTo_zd_X1_startOf_212 rfl rfl rfl (by decide +kernel) ⟨Nat.le_of_ble_eq_true rfl, Nat.le_of_ble_eq_true rfl⟩) ⟨zCR, va_recv hK hP (ci := 1) (q0 := p_12) rfl hp_12, fun U hU hW => ⟨rfl, by rw [hU]; exact hP, hE.warm hW⟩⟩ rfl rfl hl.1 rfl (lv_room (Nat.le_of_ble_eq_true rfl)) dX7_goTo_15 ⟨Nat.le_of_ble_eq_true rfl, Nat.le_of_ble_eq_true rfl⟩)) (fun r13 h => ?_)
        have hi_14 := h.1
        have h := h.2
        obtain ⟨p_14, hp_14⟩ := cget_22 cI cZ cP cF q S9 hi_14
        have hD0_14 := hD
        refine va_put (D := D) (ci := 4) (v := .int r13) (ty := .int) (C := RX4) (T := TX4) (N := 5) hx hb hts (fun _ h => List.mem_cons_of_mem _ (List.mem_append_left _ (List.mem_append_left _ (List.mem_append_left _ (List.mem_append_right _ h))))) tyX4 tyX4_ok nmX4 hown hK hP hD hS p_14 hp_14 rfl 2 (by decide) (hts (.fieldLink RX7 97 "TemplateForge$Frame" "place" "I") (List.mem_of_getElem? (i := 13) rfl)) (fun _ h9 => h9) rfl (by decide +kernel) rfl rfl (Nat.le_of_ble_eq_true rfl) dX7_goTo_18 (fun H locs hP hD hS => ?_)
        obtain ⟨S15, eS15⟩ : ∃ z, z = cs S9 222 i1 (fun _ => r13) := ⟨_, rfl⟩
        have hP : va_P D vwCl (cW cI cZ cP cF q S15) H := by rw [eS15, ← cW_put (k := 222) (κ := 22) (i := i1) (g := (fun _ => r13)) rfl hD0_14 hp_14 hi_14, cput_222]; exact hP
        have hD : va_D A (cW cI cZ cP cF q S15) := by rw [eS15, ← cW_put (k := 222) (κ := 22) (i := i1) (g := (fun _ => r13)) rfl hD0_14 hp_14 hi_14, cput_222]; exact hD
        have hN : S15.2 = S.2 := by rw [eS15]; exact hN
        have h := h S15 eS15
        exact W.vret hx hb hr (fun t ht hW => ⟨⟨S15, rfl, h, by rw [ht]; exact hP, hD, hN⟩, hS.F ht⟩) hS.2.2 dX7_goTo_21
  exact key _ _ hP va_S.rf

def wl_X7_call_32 (K_59 : CST → Prop) (Post : CST → Prop) : Nat → CST → Nat → Int32 → Int32 → Prop
  | 0, _, _, _, _ => False
  | n_32 + 1, S_32, y32_1, x32_3, x32_5 => ((3 ≤ x32_5) → ((K_59 S_32 ))) ∧ ((¬ (3 ≤ x32_5)) → (cin S_32 22 y32_1 ∧ (wp_X4_valueOf S_32 y32_1 (x32_3 + x32_5) (fun r10 => vp_in x32_5 3 ∧ (∀ S12 : CST, S12 = cs S_32 140 0 (upd (cv S_32 140 0) (x32_5 : Int32).toNatClampNeg r10) → (wl_X7_call_32 K_59 Post n_32 S12 y32_1 x32_3 (x32_5 + 1)))))))
def wp_X7_call (S : CST) (i1 : Nat) (a2 : Int32) (a3 : Int32) (a4 : Int32) (Post : CST → Prop) : Prop :=
  ((((cv S 126 0 0) : Int32) < 16) → (∀ S4 : CST, S4 = cs S 128 0 (fun _ => a2) → (∀ S6 : CST, S6 = cs S4 129 0 (fun _ => a3) → (∃ n_32, wl_X7_call_32 (fun S_59 => Post S_59) Post n_32 S6 i1 a3 0)))) ∧ ((¬ (((cv S 126 0 0) : Int32) < 16)) → (wp_X7_endByTrap S i1 6 a4 (fun S14 => Post S14)))
def zw_zd_X7_call_w0 : List Cond := [.fieldLink RX7 49 "TemplateForge$Machine" "open" "I", .fieldLink RX7 56 "TemplateForge$Machine" "called" "I", .fieldLink RX7 59 "TemplateForge$Machine" "into" "I", .fieldLink RX7 24 "TemplateForge$Machine" "handed" "[I", .code yX4_valueOf cX4_valueOf 2 (some .int), .fieldLink RX4 9 "TemplateForge$Frame" "registers" "[I", .methodLink RX7 162 yX4_valueOf, .instanceMethod yX4_valueOf, .selects RX4 yX4_valueOf yX4_valueOf, .initialized RX4, .code yX7_endByTrap cX7_endByTrap 4 none, .fieldLink RX7 53 "TemplateForge$Machine" "ending" "I", .fieldLink RX7 12 "TemplateForge$Machine" "tally" "LTemplateForge$Tally;", .fieldLink RX7 84 "TemplateForge$Frame" "program" "LTemplateForge$Program;", .fieldLink RX7 244 "TemplateForge$Program" "number" "I", .code yX10_noteTrap cX10_noteTrap 5 none]
def zw_zd_X7_call_w1 : List Cond := [.fieldLink RX10 9 "TemplateForge$Tally" "trap" "[I", .methodLink RX7 247 yX10_noteTrap, .instanceMethod yX10_noteTrap, .selects RX10 yX10_noteTrap yX10_noteTrap, .initialized RX10, .methodLink RX7 205 yX7_endByTrap, .instanceMethod yX7_endByTrap, .selects RX7 yX7_endByTrap yX7_endByTrap, .initialized RX7]
def zw_zd_X7_call : List Cond := .code yX7_call cX7_call 6 none :: ((zw_zd_X7_call_w0 ++ (zw_zd_X7_call_w1)) ++ wsX70 ++ wsX40 ++ wsX80 ++ wsX100)
set_option maxRecDepth 100000 in
theorem zg_zd_X7_call_zd_X4_valueOf_162_a : GoodIn zw_zd_X7_call [.methodLink RX7 162 yX4_valueOf, .instanceMethod yX4_valueOf, .selects RX4 yX4_valueOf yX4_valueOf, .initialized RX4] := goodIn_r _ [7, 8, 9, 10] rfl (by decide +kernel)
set_option maxRecDepth 100000 in
theorem zg_zd_X7_call_zd_X4_valueOf_162_c : GoodIn zw_zd_X7_call [.code yX4_valueOf cX4_valueOf 2 (some .int)] := goodIn_r _ [5] rfl (by decide +kernel)
set_option maxRecDepth 100000 in
theorem zg_zd_X7_call_zd_X4_valueOf_162_0 : GoodIn zw_zd_X7_call zw_zd_X4_valueOf_w0 := goodIn_r _ [6] rfl (by decide +kernel)
theorem zg_zd_X7_call_zd_X4_valueOf_162 : GoodIn zw_zd_X7_call (wsV RX7 162 RX4 yX4_valueOf zw_zd_X4_valueOf) := goodIn_app zg_zd_X7_call_zd_X4_valueOf_162_a (goodIn_ca (a := (zw_zd_X4_valueOf_w0)) (show GoodIn zw_zd_X7_call (.code yX4_valueOf cX4_valueOf 2 (some .int) :: (zw_zd_X4_valueOf_w0)) from goodIn_app zg_zd_X7_call_zd_X4_valueOf_162_c (zg_zd_X7_call_zd_X4_valueOf_162_0)) (fun w h => ⟨(fun _ h => List.mem_cons_of_mem _ (List.mem_append_left _ (List.mem_append_left _ (List.mem_append_right _ h)))) w h, good_of_word (List.all_eq_true.mp zgw_X4 w h)⟩))
set_option maxRecDepth 100000 in
theorem zg_zd_X7_call_zd_X7_endByTrap_205_a : GoodIn zw_zd_X7_call [.methodLink RX7 205 yX7_endByTrap, .instanceMethod yX7_endByTrap, .selects RX7 yX7_endByTrap yX7_endByTrap, .initialized RX7] := goodIn_r _ [22, 23, 24, 25] rfl (by decide +kernel)
set_option maxRecDepth 100000 in
theorem zg_zd_X7_call_zd_X7_endByTrap_205_c : GoodIn zw_zd_X7_call [.code yX7_endByTrap cX7_endByTrap 4 none] := goodIn_r _ [11] rfl (by decide +kernel)
set_option maxRecDepth 100000 in
theorem zg_zd_X7_call_zd_X7_endByTrap_205_0 : GoodIn zw_zd_X7_call zw_zd_X7_endByTrap_w0 := goodIn_r _ [12, 13, 14, 15, 1, 16, 17, 18, 19, 20, 21] rfl (by decide +kernel)
theorem zg_zd_X7_call_zd_X7_endByTrap_205 : GoodIn zw_zd_X7_call (wsV RX7 205 RX7 yX7_endByTrap zw_zd_X7_endByTrap) := goodIn_app zg_zd_X7_call_zd_X7_endByTrap_205_a (goodIn_ca (a := ((((zw_zd_X7_endByTrap_w0) ++ wsX70) ++ wsX40) ++ wsX80)) (goodIn_ca (a := (((zw_zd_X7_endByTrap_w0) ++ wsX70) ++ wsX40)) (goodIn_ca (a := ((zw_zd_X7_endByTrap_w0) ++ wsX70)) (goodIn_ca (a := (zw_zd_X7_endByTrap_w0)) (show GoodIn zw_zd_X7_call (.code yX7_endByTrap cX7_endByTrap 4 none :: (zw_zd_X7_endByTrap_w0)) from goodIn_app zg_zd_X7_call_zd_X7_endByTrap_205_c (zg_zd_X7_call_zd_X7_endByTrap_205_0)) (fun w h => ⟨(fun _ h => List.mem_cons_of_mem _ (List.mem_append_left _ (List.mem_append_left _ (List.mem_append_left _ (List.mem_append_right _ h))))) w h, good_of_word (List.all_eq_true.mp zgw_X7 w h)⟩)) (fun w h => ⟨(fun _ h => List.mem_cons_of_mem _ (List.mem_append_left _ (List.mem_append_left _ (List.mem_append_right _ h)))) w h, good_of_word (List.all_eq_true.mp zgw_X4 w h)⟩)) (fun w h => ⟨(fun _ h => List.mem_cons_of_mem _ (List.mem_append_left _ (List.mem_append_right _ h))) w h, good_of_word (List.all_eq_true.mp zgw_X8 w h)⟩)) (fun w h => ⟨(fun _ h => List.mem_cons_of_mem _ (List.mem_append_right _ h)) w h, good_of_word (List.all_eq_true.mp zgw_X10 w h)⟩))
set_option maxHeartbeats 16000000 in
set_option maxRecDepth 100000 in
theorem zd_X7_call (l : Launch) (D : va_G) (cI cZ cP cF : Nat) (q : Nat → Nat → Nat) (S : CST) (i1 : Nat) (a2 : Int32) (a3 : Int32) (a4 : Int32) (sz : Nat) (Post : CST → Prop) (h : wp_X7_call S i1 a2 a3 a4 Post) : Met l yX7_call zw_zd_X7_call ({ frames := 2, cells := 0, slots := 0, locals := 47 }) (va_Pc [.ref (q 12 0), .ref (q 22 i1), .int a2, .int a3, .int a4] (fun U => U.heap.size = sz ∧ va_P D vwCl (cW cI cZ cP cF q S) U.heap ∧ zF D cI cZ cP cF U ∧ va_D (fun _ => True) (cW cI cZ cP cF q S))) (va_Qv (fun S' => Post S') (fun (S' : CST) t => va_P D vwCl (cW cI cZ cP cF q S') t.heap ∧ va_D (va_A (cW cI cZ cP cF q S) sz) (cW cI cZ cP cF q S') ∧ S'.2 = S.2) (va_A (cW cI cZ cP cF q S) sz)) 0 0 (va_A (cW cI cZ cP cF q S) sz) := by
  unfold wp_X7_call at h
  refine Met.ofW (cc := cX7_call) (maxL := 6) (ret := none) (by decide) rfl ?_
  intro p e s m args below meth c s₁ B hml hv
  obtain ⟨rfl, hsz, hP, hE, hD0⟩ := hv
  have hx := B.exec
  have hb := B.bytes
  have hr := B.returns
  have hts := atoms_spec (ws := zw_zd_X7_call) B.pre
  have hown : s.vm.findClass RX7 = some m.cls := findClass_of_methodNamed B.named
  have hlocks := B.notSynchronized
  have hK := hE.k
  subst hsz
  have hD := hD0.self (sz := s.heap.size)
  generalize hAe : va_A (cW cI cZ cP cF q S) s.heap.size = A at hD ⊢
  have hA : ∀ q : Nat, s.heap.size ≤ q → A q := fun q h => by rw [← hAe]; exact Or.inr h
  have hN : S.2 = S.2 := rfl
  have hl := lv_entry ([.ref (q 12 0), .ref (q 22 i1), .int a2, .int a3, .int a4]) (n := 6) (Nat.le_of_ble_eq_true rfl)
  rw [lg_entry_eq]
  generalize (lg_sl ([.ref (q 12 0), .ref (q 22 i1), .int a2, .int a3, .int a4]) ++ List.replicate (6 - (lg_sl ([.ref (q 12 0), .ref (q 22 i1), .int a2, .int a3, .int a4])).length) Slot.unset).toArray = ls at hl ⊢
  have hl : lv_has ls 6 [(0, .ref (q 12 0)), (1, .ref (q 22 i1)), (2, .int a2), (3, .int a3), (4, .int a4)] := hl
  have key : ∀ (H : Heap) (locs : List Loc), va_P D vwCl (cW cI cZ cP cF q S) H → va_S A s.heap H locs → W p l e (headSpec zw_zd_X7_call ({ frames := 2, cells := 0, slots := 0, locals := 47 })).room s m ([.ref (q 12 0), .ref (q 22 i1), .int a2, .int a3, .int a4] : List Value).toArray below meth c H locs 0 0 (MQ below (va_Qv (fun S' => Post S') (fun (S' : CST) t => va_P D vwCl (cW cI cZ cP cF q S') t.heap ∧ va_D A (cW cI cZ cP cF q S') ∧ S'.2 = S.2) A) ([.ref (q 12 0), .ref (q 22 i1), .int a2, .int a3, .int a4] : List Value).toArray s 0 0 A) (F0 m 0 ls []) := by
    intro H locs hP hS
    refine lv_aload_n hx hb dX7_call_0 rfl (lv_at hl 0 rfl) ?_
    obtain ⟨p_1, hp_1⟩ := cget_12 cI cZ cP cF q S
    have hi_1 : cin S 12 0 := Or.inl ⟨by decide, rfl⟩
    refine va_get (D := D) (ci := 7) (v := .int (cv S 126 0 0)) (C := RX7) (T := TX7) (N := 10) hx hb hts (fun _ h => List.mem_cons_of_mem _ (List.mem_append_left _ (List.mem_append_left _ (List.mem_append_left _ (List.mem_append_right _ h))))) hown hK hP p_1 hp_1 rfl 6 (by decide) (hts (.fieldLink RX7 49 "TemplateForge$Machine" "open" "I") (List.mem_of_getElem? (i := 1) rfl)) (fun _ h9 => h9) rfl dX7_call_1 ?_
    refine lv_bipush (v := 16) hx hb dX7_call_4 (by decide) ?_
    refine lv_icmp_lt (tgt := 19) hx hb dX7_call_6 (by decide) (fun c_2 => ?_) (fun c_2 => ?_)
    · have h := h.1 c_2
      refine lv_aload_n hx hb dX7_call_19 rfl (lv_at hl 0 rfl) ?_
      refine lv_iload_n hx hb dX7_call_20 rfl (lv_at hl 2 rfl) ?_
      obtain ⟨p_3, hp_3⟩ := cget_12 cI cZ cP cF q S
      have hi_3 : cin S 12 0 := Or.inl ⟨by decide, rfl⟩
      have hD0_3 := hD
      refine va_put (D := D) (ci := 7) (v := .int a2) (ty := .int) (C := RX7) (T := TX7) (N := 10) hx hb hts (fun _ h => List.mem_cons_of_mem _ (List.mem_append_left _ (List.mem_append_left _ (List.mem_append_left _ (List.mem_append_right _ h))))) tyX7 tyX7_ok nmX7 hown hK hP hD hS p_3 hp_3 rfl 8 (by decide) (hts (.fieldLink RX7 56 "TemplateForge$Machine" "called" "I") (List.mem_of_getElem? (i := 2) rfl)) (fun _ h9 => h9) rfl (by decide +kernel) rfl rfl (Nat.le_of_ble_eq_true rfl) dX7_call_21 (fun H locs hP hD hS => ?_)
      obtain ⟨S4, eS4⟩ : ∃ z, z = cs S 128 0 (fun _ => a2) := ⟨_, rfl⟩
      have hP : va_P D vwCl (cW cI cZ cP cF q S4) H := by rw [eS4, ← cW_put (k := 128) (κ := 12) (i := 0) (g := (fun _ => a2)) rfl hD0_3 hp_3 hi_3, cput_128]; exact hP
      have hD : va_D A (cW cI cZ cP cF q S4) := by rw [eS4, ← cW_put (k := 128) (κ := 12) (i := 0) (g := (fun _ => a2)) rfl hD0_3 hp_3 hi_3, cput_128]; exact hD
      have hN : S4.2 = S.2 := by rw [eS4]; exact hN
      have h := h S4 eS4
      refine lv_aload_n hx hb dX7_call_24 rfl (lv_at hl 0 rfl) ?_
      refine lv_iload_n hx hb dX7_call_25 rfl (lv_at hl 3 rfl) ?_
      obtain ⟨p_5, hp_5⟩ := cget_12 cI cZ cP cF q S4
      have hi_5 : cin S4 12 0 := Or.inl ⟨by decide, rfl⟩
      have hD0_5 := hD
      refine va_put (D := D) (ci := 7) (v := .int a3) (ty := .int) (C := RX7) (T := TX7) (N := 10) hx hb hts (fun _ h => List.mem_cons_of_mem _ (List.mem_append_left _ (List.mem_append_left _ (List.mem_append_left _ (List.mem_append_right _ h))))) tyX7 tyX7_ok nmX7 hown hK hP hD hS p_5 hp_5 rfl 9 (by decide) (hts (.fieldLink RX7 59 "TemplateForge$Machine" "into" "I") (List.mem_of_getElem? (i := 3) rfl)) (fun _ h9 => h9) rfl (by decide +kernel) rfl rfl (Nat.le_of_ble_eq_true rfl) dX7_call_26 (fun H locs hP hD hS => ?_)
      obtain ⟨S6, eS6⟩ : ∃ z, z = cs S4 129 0 (fun _ => a3) := ⟨_, rfl⟩
      have hP : va_P D vwCl (cW cI cZ cP cF q S6) H := by rw [eS6, ← cW_put (k := 129) (κ := 12) (i := 0) (g := (fun _ => a3)) rfl hD0_5 hp_5 hi_5, cput_129]; exact hP
      have hD : va_D A (cW cI cZ cP cF q S6) := by rw [eS6, ← cW_put (k := 129) (κ := 12) (i := 0) (g := (fun _ => a3)) rfl hD0_5 hp_5 hi_5, cput_129]; exact hD
      have hN : S6.2 = S.2 := by rw [eS6]; exact hN
      have h := h S6 eS6
      refine lv_iconst (v := 0) hx hb dX7_call_29 (by decide) ?_
      refine lv_istore (lv' := [(5, .int 0), (0, .ref (q 12 0)), (1, .ref (q 22 i1)), (2, .int a2), (3, .int a3), (4, .int a4)]) hx hb dX7_call_30 hl (by decide) rfl (fun ls hl => ?_)
      have EX_32_59 : ∀ (S_59 : CST) (H : Heap) (locs : List Loc) (ls : Array Slot), (Post S_59) → va_P D vwCl (cW cI cZ cP cF q S_59) H → va_D A (cW cI cZ cP cF q S_59) → va_S A s.heap H locs → S_59.2 = S.2 → lv_has ls 6 [] → W p l e (headSpec zw_zd_X7_call ({ frames := 2, cells := 0, slots := 0, locals := 47 })).room s m ([.ref (q 12 0), .ref (q 22 i1), .int a2, .int a3, .int a4] : List Value).toArray below meth c H locs 0 0 (MQ below (va_Qv (fun S' => Post S') (fun (S' : CST) t => va_P D vwCl (cW cI cZ cP cF q S') t.heap ∧ va_D A (cW cI cZ cP cF q S') ∧ S'.2 = S.2) A) ([.ref (q 12 0), .ref (q 22 i1), .int a2, .int a3, .int a4] : List Value).toArray s 0 0 A) (F0 m 59 ls []) := by
        intro S_59  H locs ls h hP hD hS hN hl
        exact W.vret hx hb hr (fun t ht hW => ⟨⟨S_59, rfl, h, by rw [ht]; exact hP, hD, hN⟩, hS.F ht⟩) hS.2.2 dX7_call_59
      have LP_32 : ∀ (n_32 : Nat), ∀ (S_32 : CST) (y32_1 : Nat) (x32_3 : Int32) (x32_5 : Int32) (H : Heap) (locs : List Loc) (ls : Array Slot), wl_X7_call_32 (fun S_59 => Post S_59) Post n_32 S_32 y32_1 x32_3 x32_5 → va_P D vwCl (cW cI cZ cP cF q S_32) H → va_D A (cW cI cZ cP cF q S_32) → va_S A s.heap H locs → S_32.2 = S.2 → lv_has ls 6 [(0, .ref (q 12 0)), (1, .ref (q 22 y32_1)), (3, .int x32_3), (5, .int x32_5)] → W p l e (headSpec zw_zd_X7_call ({ frames := 2, cells := 0, slots := 0, locals := 47 })).room s m ([.ref (q 12 0), .ref (q 22 i1), .int a2, .int a3, .int a4] : List Value).toArray below meth c H locs 0 0 (MQ below (va_Qv (fun S' => Post S') (fun (S' : CST) t => va_P D vwCl (cW cI cZ cP cF q S') t.heap ∧ va_D A (cW cI cZ cP cF q S') ∧ S'.2 = S.2) A) ([.ref (q 12 0), .ref (q 22 i1), .int a2, .int a3, .int a4] : List Value).toArray s 0 0 A) (F0 m 32 ls []) := by
        intro n_32
        induction n_32 with
        | zero =>
          intro S_32 y32_1 x32_3 x32_5 H locs ls h hP hD hS hN hl
          exact False.elim h
        | succ n_32 ih_32 =>
          intro S_32 y32_1 x32_3 x32_5 H locs ls h hP hD hS hN hl
          unfold wl_X7_call_32 at h
          refine lv_iload hx hb dX7_call_32 (lv_at hl 3 rfl) ?_
          refine lv_iconst (v := 3) hx hb dX7_call_34 (by decide) ?_
          refine lv_icmp_ge (tgt := 59) hx hb dX7_call_35 (by decide) (fun c_7 => ?_) (fun c_7 => ?_)
          · have h := h.1 c_7
            exact EX_32_59  S_32  H locs _ h hP hD hS hN (lv_sub hl [] rfl)
          · have h := h.2 c_7
            refine lv_aload_n hx hb dX7_call_38 rfl (lv_at hl 0 rfl) ?_
            obtain ⟨p_8, hp_8⟩ := cget_12 cI cZ cP cF q S_32
            have hi_8 : cin S_32 12 0 := Or.inl ⟨by decide, rfl⟩
            refine va_get (D := D) (ci := 7) (v := .ref (q 14 0)) (C := RX7) (T := TX7) (N := 10) hx hb hts (fun _ h => List.mem_cons_of_mem _ (List.mem_append_left _ (List.mem_append_left _ (List.mem_append_left _ (List.mem_append_right _ h))))) hown hK hP p_8 hp_8 rfl 5 (by decide) (hts (.fieldLink RX7 24 "TemplateForge$Machine" "handed" "[I") (List.mem_of_getElem? (i := 4) rfl)) (fun _ h9 => h9) rfl dX7_call_39 ?_
            refine lv_iload hx hb dX7_call_42 (lv_at hl 3 rfl) ?_
            refine lv_aload_n hx hb dX7_call_44 rfl (lv_at hl 1 rfl) ?_
            refine lv_iload_n hx hb dX7_call_45 rfl (lv_at hl 2 rfl) ?_
            refine lv_iload hx hb dX7_call_46 (lv_at hl 3 rfl) ?_
            refine lv_iadd hx hb dX7_call_48 ?_
            have hi_9 := h.1
            have h := h.2
            obtain ⟨p_9, hp_9⟩ := cget_22 cI cZ cP cF q S_32 hi_9
            refine vp_callSi (va_Run.run (va_runV (As := [.int (x32_3 + x32_5)]) (rest := [.int x32_5, .ref (q 14 0)]) ⟨hx, hb, hml, hown, hts⟩ (zd_X4_valueOf l D cI cZ cP cF q S_32 y32_1 (x32_3 + x32_5)  _ h) (cwV 1 hts zg_zd_X7_call_zd_X4_valueOf_162 rfl rfl rfl (by decide +kernel) ⟨Nat.le_of_ble_eq_true rfl, Nat.le_of_ble_eq_true rfl⟩) ⟨zCR, va_recv hK hP (ci := 4) (q0 := p_9) rfl hp_9, fun U hU hW => ⟨rfl, by rw [hU]; exact hP, hE.warm hW⟩⟩ rfl rfl hl.1 rfl (lv_room (Nat.le_of_ble_eq_true rfl)) dX7_call_49 ⟨Nat.le_of_ble_eq_true rfl, Nat.le_of_ble_eq_true rfl⟩)) (fun r10 h => ?_)
            obtain ⟨p_11, hp_11⟩ := cget_14 cI cZ cP cF q S_32
            have hi_11 : cin S_32 14 0 := Or.inl ⟨by decide, rfl⟩
            have hin_11 := h.1
            have h := h.2
            have hD0_11 := hD
            refine va_iast hx hb hK hP hD hS p_11 0 hp_11 rfl hin_11 dX7_call_52 (fun H locs hP hD hS => ?_)
            obtain ⟨S12, eS12⟩ : ∃ z, z = cs S_32 140 0 (upd (cv S_32 140 0) (x32_5 : Int32).toNatClampNeg r10) := ⟨_, rfl⟩
            have hP : va_P D vwCl (cW cI cZ cP cF q S12) H := by rw [eS12, ← cW_put (k := 140) (κ := 14) (i := 0) (g := (upd (cv S_32 140 0) (x32_5 : Int32).toNatClampNeg r10)) rfl hD0_11 hp_11 hi_11, cput_140]; exact hP
            have hD : va_D A (cW cI cZ cP cF q S12) := by rw [eS12, ← cW_put (k := 140) (κ := 14) (i := 0) (g := (upd (cv S_32 140 0) (x32_5 : Int32).toNatClampNeg r10)) rfl hD0_11 hp_11 hi_11, cput_140]; exact hD
            have hN : S12.2 = S.2 := by rw [eS12]; exact hN
            have h := h S12 eS12
            refine lv_iinc (v := x32_5 + 1) (lv' := [(5, .int (x32_5 + 1)), (0, .ref (q 12 0)), (1, .ref (q 22 y32_1)), (3, .int x32_3)]) hx hb dX7_call_53 hl (k := 3) rfl rfl (by decide) rfl (fun ls hl => ?_)
            refine lv_goto (tgt := 32) hx hb dX7_call_56 (by decide) ?_
            exact ih_32  S12 y32_1 x32_3 (x32_5 + 1) H locs _ h hP hD hS hN (lv_sub hl [1, 2, 3, 0] rfl)
      obtain ⟨n_32, h⟩ := h
      exact LP_32 n_32 S6 i1 a3 0 H locs _ h hP hD hS hN (lv_sub hl [1, 2, 4, 0] rfl)
    · have h := h.2 c_2
      refine lv_aload_n hx hb dX7_call_9 rfl (lv_at hl 0 rfl) ?_
      refine lv_aload_n hx hb dX7_call_10 rfl (lv_at hl 1 rfl) ?_
      refine lv_bipush (v := 6) hx hb dX7_call_11 (by decide) ?_
      refine lv_iload hx hb dX7_call_13 (lv_at hl 4 rfl) ?_
      obtain ⟨p_13, hp_13⟩ := cget_12 cI cZ cP cF q S
      have hi_13 : cin S 12 0 := Or.inl ⟨by decide, rfl⟩
      have hFc := zm_free hD hS hA
      refine va_callv (va_runV (As := [.ref (q 22 i1), .int 6, .int a4]) (rest := []) ⟨hx, hb, hml, hown, hts⟩ (zd_X7_endByTrap l D cI cZ cP cF q S i1 6 a4 H.size _ h) (cwV 3 hts zg_zd_X7_call_zd_X7_endByTrap_205 rfl rfl rfl (by decide +kernel) ⟨Nat.le_of_ble_eq_true rfl, Nat.le_of_ble_eq_true rfl⟩) ⟨zCW, va_recv hK hP (ci := 7) (q0 := p_13) rfl hp_13, fun U hU hW => ⟨rfl, by rw [hU], by rw [hU]; exact hP, hE.warm hW, hD.weaken (fun _ _ _ _ => trivial)⟩⟩ rfl rfl hl.1 rfl (lv_room (Nat.le_of_ble_eq_true rfl)) dX7_call_15 ⟨Nat.le_of_ble_eq_true rfl, Nat.le_of_ble_eq_true rfl⟩) hS (fun q _ h => hFc q h) hFc (fun S14 t H locs ht hvm h hB hz1 hk1 hS => ?_)
      obtain ⟨hP, hD1, hN1⟩ := hB
      rw [ht] at hP
      have hD := hD1.weaken (fun k q _ hq => hFc q.1 hq)
      have hN := hN1.trans hN
      exact W.vret hx hb hr (fun t ht hW => ⟨⟨S14, rfl, h, by rw [ht]; exact hP, hD, hN⟩, hS.F ht⟩) hS.2.2 dX7_call_18
  exact key _ _ hP va_S.rf

def wp_X7_giveBack (S : CST) (i1 : Nat) (a2 : Int32) (Post : CST → Prop) : Prop :=
  ∀ S3 : CST, S3 = cs S 126 0 (fun _ => (cv S 126 0 0) - 1) → (wp_X7_latestFrame S3  (fun r5 => ((r5 < 0) → (∀ S9 : CST, S9 = cs S3 205 0 (fun _ => a2) → (∀ S11 : CST, S11 = cs S9 127 0 (fun _ => 0) → (Post S11)))) ∧ ((¬ (r5 < 0)) → (cin S3 22 i1 ∧ (cin S3 22 ((r5 : Int32).toNatClampNeg) ∧ (wp_X4_put S3 ((r5 : Int32).toNatClampNeg) (cv S3 223 i1 0) a2 (fun S14 => Post S14)))))))
def zw_zd_X7_giveBack_w0 : List Cond := [.fieldLink RX7 49 "TemplateForge$Machine" "open" "I", .code yX7_latestFrame cX7_latestFrame 1 (some (.object "TemplateForge$Frame")), .fieldLink RX7 20 "TemplateForge$Machine" "frames" "[LTemplateForge$Frame;", .methodLink RX7 111 yX7_latestFrame, .instanceMethod yX7_latestFrame, .selects RX7 yX7_latestFrame yX7_latestFrame, .initialized RX7, .fieldLink RX7 12 "TemplateForge$Machine" "tally" "LTemplateForge$Tally;", .fieldLink RX7 215 "TemplateForge$Tally" "returned" "I", .fieldLink RX7 53 "TemplateForge$Machine" "ending" "I", .fieldLink RX7 100 "TemplateForge$Frame" "into" "I", .code yX4_put cX4_put 3 none, .fieldLink RX4 9 "TemplateForge$Frame" "registers" "[I", .methodLink RX7 107 yX4_put, .instanceMethod yX4_put, .selects RX4 yX4_put yX4_put]
def zw_zd_X7_giveBack_w1 : List Cond := [.initialized RX4]
def zw_zd_X7_giveBack : List Cond := .code yX7_giveBack cX7_giveBack 4 none :: ((zw_zd_X7_giveBack_w0 ++ (zw_zd_X7_giveBack_w1)) ++ wsX70 ++ wsX100 ++ wsX40)
set_option maxRecDepth 100000 in
theorem zg_zd_X7_giveBack_zd_X7_latestFrame_111_a : GoodIn zw_zd_X7_giveBack [.methodLink RX7 111 yX7_latestFrame, .instanceMethod yX7_latestFrame, .selects RX7 yX7_latestFrame yX7_latestFrame, .initialized RX7] := goodIn_r _ [4, 5, 6, 7] rfl (by decide +kernel)
set_option maxRecDepth 100000 in
theorem zg_zd_X7_giveBack_zd_X7_latestFrame_111_c : GoodIn zw_zd_X7_giveBack [.code yX7_latestFrame cX7_latestFrame 1 (some (.object "TemplateForge$Frame"))] := goodIn_r _ [2] rfl (by decide +kernel)
set_option maxRecDepth 100000 in
theorem zg_zd_X7_giveBack_zd_X7_latestFrame_111_0 : GoodIn zw_zd_X7_giveBack zw_zd_X7_latestFrame_w0 := goodIn_r _ [1, 3] rfl (by decide +kernel)
theorem zg_zd_X7_giveBack_zd_X7_latestFrame_111 : GoodIn zw_zd_X7_giveBack (wsV RX7 111 RX7 yX7_latestFrame zw_zd_X7_latestFrame) := goodIn_app zg_zd_X7_giveBack_zd_X7_latestFrame_111_a (goodIn_ca (a := (zw_zd_X7_latestFrame_w0)) (show GoodIn zw_zd_X7_giveBack (.code yX7_latestFrame cX7_latestFrame 1 (some (.object "TemplateForge$Frame")) :: (zw_zd_X7_latestFrame_w0)) from goodIn_app zg_zd_X7_giveBack_zd_X7_latestFrame_111_c (zg_zd_X7_giveBack_zd_X7_latestFrame_111_0)) (fun w h => ⟨(fun _ h => List.mem_cons_of_mem _ (List.mem_append_left _ (List.mem_append_left _ (List.mem_append_right _ h)))) w h, good_of_word (List.all_eq_true.mp zgw_X7 w h)⟩))
set_option maxRecDepth 100000 in
theorem zg_zd_X7_giveBack_zd_X4_put_107_a : GoodIn zw_zd_X7_giveBack [.methodLink RX7 107 yX4_put, .instanceMethod yX4_put, .selects RX4 yX4_put yX4_put, .initialized RX4] := goodIn_r _ [14, 15, 16, 17] rfl (by decide +kernel)
set_option maxRecDepth 100000 in
theorem zg_zd_X7_giveBack_zd_X4_put_107_c : GoodIn zw_zd_X7_giveBack [.code yX4_put cX4_put 3 none] := goodIn_r _ [12] rfl (by decide +kernel)
set_option maxRecDepth 100000 in
theorem zg_zd_X7_giveBack_zd_X4_put_107_0 : GoodIn zw_zd_X7_giveBack zw_zd_X4_put_w0 := goodIn_r _ [13] rfl (by decide +kernel)
theorem zg_zd_X7_giveBack_zd_X4_put_107 : GoodIn zw_zd_X7_giveBack (wsV RX7 107 RX4 yX4_put zw_zd_X4_put) := goodIn_app zg_zd_X7_giveBack_zd_X4_put_107_a (goodIn_ca (a := (zw_zd_X4_put_w0)) (show GoodIn zw_zd_X7_giveBack (.code yX4_put cX4_put 3 none :: (zw_zd_X4_put_w0)) from goodIn_app zg_zd_X7_giveBack_zd_X4_put_107_c (zg_zd_X7_giveBack_zd_X4_put_107_0)) (fun w h => ⟨(fun _ h => List.mem_cons_of_mem _ (List.mem_append_right _ h)) w h, good_of_word (List.all_eq_true.mp zgw_X4 w h)⟩))
set_option maxHeartbeats 16000000 in
set_option maxRecDepth 100000 in
theorem zd_X7_giveBack (l : Launch) (D : va_G) (cI cZ cP cF : Nat) (q : Nat → Nat → Nat) (S : CST) (i1 : Nat) (a2 : Int32) (sz : Nat) (Post : CST → Prop) (h : wp_X7_giveBack S i1 a2 Post) : Met l yX7_giveBack zw_zd_X7_giveBack ({ frames := 1, cells := 0, slots := 0, locals := 22 }) (va_Pc [.ref (q 12 0), .ref (q 22 i1), .int a2] (fun U => U.heap.size = sz ∧ va_P D vwCl (cW cI cZ cP cF q S) U.heap ∧ zF D cI cZ cP cF U ∧ va_D (fun _ => True) (cW cI cZ cP cF q S))) (va_Qv (fun S' => Post S') (fun (S' : CST) t => va_P D vwCl (cW cI cZ cP cF q S') t.heap ∧ va_D (va_A (cW cI cZ cP cF q S) sz) (cW cI cZ cP cF q S') ∧ S'.2 = S.2) (va_A (cW cI cZ cP cF q S) sz)) 0 0 (va_A (cW cI cZ cP cF q S) sz) := by
  unfold wp_X7_giveBack at h
  refine Met.ofW (cc := cX7_giveBack) (maxL := 4) (ret := none) (by decide) rfl ?_
  intro p e s m args below meth c s₁ B hml hv
  obtain ⟨rfl, hsz, hP, hE, hD0⟩ := hv
  have hx := B.exec
  have hb := B.bytes
  have hr := B.returns
  have hts := atoms_spec (ws := zw_zd_X7_giveBack) B.pre
  have hown : s.vm.findClass RX7 = some m.cls := findClass_of_methodNamed B.named
  have hlocks := B.notSynchronized
  have hK := hE.k
  subst hsz
  have hD := hD0.self (sz := s.heap.size)
  generalize hAe : va_A (cW cI cZ cP cF q S) s.heap.size = A at hD ⊢
  have hA : ∀ q : Nat, s.heap.size ≤ q → A q := fun q h => by rw [← hAe]; exact Or.inr h
  have hN : S.2 = S.2 := rfl
  have hl := lv_entry ([.ref (q 12 0), .ref (q 22 i1), .int a2]) (n := 4) (Nat.le_of_ble_eq_true rfl)
  rw [lg_entry_eq]
  generalize (lg_sl ([.ref (q 12 0), .ref (q 22 i1), .int a2]) ++ List.replicate (4 - (lg_sl ([.ref (q 12 0), .ref (q 22 i1), .int a2])).length) Slot.unset).toArray = ls at hl ⊢
  have hl : lv_has ls 4 [(0, .ref (q 12 0)), (1, .ref (q 22 i1)), (2, .int a2)] := hl
  have key : ∀ (H : Heap) (locs : List Loc), va_P D vwCl (cW cI cZ cP cF q S) H → va_S A s.heap H locs → W p l e (headSpec zw_zd_X7_giveBack ({ frames := 1, cells := 0, slots := 0, locals := 22 })).room s m ([.ref (q 12 0), .ref (q 22 i1), .int a2] : List Value).toArray below meth c H locs 0 0 (MQ below (va_Qv (fun S' => Post S') (fun (S' : CST) t => va_P D vwCl (cW cI cZ cP cF q S') t.heap ∧ va_D A (cW cI cZ cP cF q S') ∧ S'.2 = S.2) A) ([.ref (q 12 0), .ref (q 22 i1), .int a2] : List Value).toArray s 0 0 A) (F0 m 0 ls []) := by
    intro H locs hP hS
    refine lv_aload_n hx hb dX7_giveBack_0 rfl (lv_at hl 0 rfl) ?_
    refine lv_dup hx hb dX7_giveBack_1 rfl ?_
    obtain ⟨p_1, hp_1⟩ := cget_12 cI cZ cP cF q S
    have hi_1 : cin S 12 0 := Or.inl ⟨by decide, rfl⟩
    refine va_get (D := D) (ci := 7) (v := .int (cv S 126 0 0)) (C := RX7) (T := TX7) (N := 10) hx hb hts (fun _ h => List.mem_cons_of_mem _ (List.mem_append_left _ (List.mem_append_left _ (List.mem_append_right _ h)))) hown hK hP p_1 hp_1 rfl 6 (by decide) (hts (.fieldLink RX7 49 "TemplateForge$Machine" "open" "I") (List.mem_of_getElem? (i := 1) rfl)) (fun _ h9 => h9) rfl dX7_giveBack_2 ?_
    refine lv_iconst (v := 1) hx hb dX7_giveBack_5 (by decide) ?_
    refine lv_isub hx hb dX7_giveBack_6 ?_
    obtain ⟨p_2, hp_2⟩ := cget_12 cI cZ cP cF q S
    have hi_2 : cin S 12 0 := Or.inl ⟨by decide, rfl⟩
    have hD0_2 := hD
    refine va_put (D := D) (ci := 7) (v := .int ((cv S 126 0 0) - 1)) (ty := .int) (C := RX7) (T := TX7) (N := 10) hx hb hts (fun _ h => List.mem_cons_of_mem _ (List.mem_append_left _ (List.mem_append_left _ (List.mem_append_right _ h)))) tyX7 tyX7_ok nmX7 hown hK hP hD hS p_2 hp_2 rfl 6 (by decide) (hts (.fieldLink RX7 49 "TemplateForge$Machine" "open" "I") (List.mem_of_getElem? (i := 1) rfl)) (fun _ h9 => h9) rfl (by decide +kernel) rfl rfl (Nat.le_of_ble_eq_true rfl) dX7_giveBack_7 (fun H locs hP hD hS => ?_)
    obtain ⟨S3, eS3⟩ : ∃ z, z = cs S 126 0 (fun _ => (cv S 126 0 0) - 1) := ⟨_, rfl⟩
    have hP : va_P D vwCl (cW cI cZ cP cF q S3) H := by rw [eS3, ← cW_put (k := 126) (κ := 12) (i := 0) (g := (fun _ => (cv S 126 0 0) - 1)) rfl hD0_2 hp_2 hi_2, cput_126]; exact hP
    have hD : va_D A (cW cI cZ cP cF q S3) := by rw [eS3, ← cW_put (k := 126) (κ := 12) (i := 0) (g := (fun _ => (cv S 126 0 0) - 1)) rfl hD0_2 hp_2 hi_2, cput_126]; exact hD
    have hN : S3.2 = S.2 := by rw [eS3]; exact hN
    have h := h S3 eS3
    refine lv_aload_n hx hb dX7_giveBack_10 rfl (lv_at hl 0 rfl) ?_
    obtain ⟨p_4, hp_4⟩ := cget_12 cI cZ cP cF q S3
    have hi_4 : cin S3 12 0 := Or.inl ⟨by decide, rfl⟩
    refine va_csq (va_Run.run (va_runV (As := []) (rest := []) ⟨hx, hb, hml, hown, hts⟩ (zd_X7_latestFrame l D cI cZ cP cF q S3   _ h) (cwV 0 hts zg_zd_X7_giveBack_zd_X7_latestFrame_111 rfl rfl rfl (by decide +kernel) ⟨Nat.le_of_ble_eq_true rfl, Nat.le_of_ble_eq_true rfl⟩) ⟨zCR, va_recv hK hP (ci := 7) (q0 := p_4) rfl hp_4, fun U hU hW => ⟨rfl, by rw [hU]; exact hP, hE.warm hW⟩⟩ rfl rfl hl.1 rfl (lv_room (Nat.le_of_ble_eq_true rfl)) dX7_giveBack_11 ⟨Nat.le_of_ble_eq_true rfl, Nat.le_of_ble_eq_true rfl⟩)) (fun o_5 ho_5 => ?_)
    obtain ⟨r5, rfl, h⟩ := ho_5
    by_cases hn_6 : r5 < 0
    · have h := h.1 hn_6
      rw [show va_rf (cno q 22 r5) = .null from cn_neg hn_6]
      refine lv_astore_nN (lv' := [(3, .null), (0, .ref (q 12 0)), (1, .ref (q 22 i1)), (2, .int a2)]) hx hb dX7_giveBack_14 rfl hl (by decide) rfl (fun ls hl => ?_)
      refine lv_aload_nN hx hb dX7_giveBack_15 rfl (lv_at hl 0 rfl) ?_
      refine lv_ifnonnullN hx hb dX7_giveBack_16 ?_
      refine lv_aload_n hx hb dX7_giveBack_19 rfl (lv_at hl 1 rfl) ?_
      obtain ⟨p_7, hp_7⟩ := cget_12 cI cZ cP cF q S3
      have hi_7 : cin S3 12 0 := Or.inl ⟨by decide, rfl⟩
      refine va_get (D := D) (ci := 7) (v := .ref (q 20 0)) (C := RX7) (T := TX7) (N := 10) hx hb hts (fun _ h => List.mem_cons_of_mem _ (List.mem_append_left _ (List.mem_append_left _ (List.mem_append_right _ h)))) hown hK hP p_7 hp_7 rfl 3 (by decide) (hts (.fieldLink RX7 12 "TemplateForge$Machine" "tally" "LTemplateForge$Tally;") (List.mem_of_getElem? (i := 8) rfl)) (fun _ h9 => h9) rfl dX7_giveBack_20 ?_
      refine lv_iload_n hx hb dX7_giveBack_23 rfl (lv_at hl 3 rfl) ?_
      obtain ⟨p_8, hp_8⟩ := cget_20 cI cZ cP cF q S3
      have hi_8 : cin S3 20 0 := Or.inl ⟨by decide, rfl⟩
      have hD0_8 := hD
      refine va_put (D := D) (ci := 10) (v := .int a2) (ty := .int) (C := RX10) (T := TX10) (N := 7) hx hb hts (fun _ h => List.mem_cons_of_mem _ (List.mem_append_left _ (List.mem_append_right _ h))) tyX10 tyX10_ok nmX10 hown hK hP hD hS p_8 hp_8 rfl 5 (by decide) (hts (.fieldLink RX7 215 "TemplateForge$Tally" "returned" "I") (List.mem_of_getElem? (i := 9) rfl)) (fun _ h9 => h9) rfl (by decide +kernel) rfl rfl (Nat.le_of_ble_eq_true rfl) dX7_giveBack_24 (fun H locs hP hD hS => ?_)
      obtain ⟨S9, eS9⟩ : ∃ z, z = cs S3 205 0 (fun _ => a2) := ⟨_, rfl⟩
      have hP : va_P D vwCl (cW cI cZ cP cF q S9) H := by rw [eS9, ← cW_put (k := 205) (κ := 20) (i := 0) (g := (fun _ => a2)) rfl hD0_8 hp_8 hi_8, cput_205]; exact hP
      have hD : va_D A (cW cI cZ cP cF q S9) := by rw [eS9, ← cW_put (k := 205) (κ := 20) (i := 0) (g := (fun _ => a2)) rfl hD0_8 hp_8 hi_8, cput_205]; exact hD
      have hN : S9.2 = S.2 := by rw [eS9]; exact hN
      have h := h S9 eS9
      refine lv_aload_n hx hb dX7_giveBack_27 rfl (lv_at hl 1 rfl) ?_
      refine lv_iconst (v := 0) hx hb dX7_giveBack_28 (by decide) ?_
      obtain ⟨p_10, hp_10⟩ := cget_12 cI cZ cP cF q S9
      have hi_10 : cin S9 12 0 := Or.inl ⟨by decide, rfl⟩
      have hD0_10 := hD
      refine va_put (D := D) (ci := 7) (v := .int 0) (ty := .int) (C := RX7) (T := TX7) (N := 10) hx hb hts (fun _ h => List.mem_cons_of_mem _ (List.mem_append_left _ (List.mem_append_left _ (List.mem_append_right _ h)))) tyX7 tyX7_ok nmX7 hown hK hP hD hS p_10 hp_10 rfl 7 (by decide) (hts (.fieldLink RX7 53 "TemplateForge$Machine" "ending" "I") (List.mem_of_getElem? (i := 10) rfl)) (fun _ h9 => h9) rfl (by decide +kernel) rfl rfl (Nat.le_of_ble_eq_true rfl) dX7_giveBack_29 (fun H locs hP hD hS => ?_)
      obtain ⟨S11, eS11⟩ : ∃ z, z = cs S9 127 0 (fun _ => 0) := ⟨_, rfl⟩
      have hP : va_P D vwCl (cW cI cZ cP cF q S11) H := by rw [eS11, ← cW_put (k := 127) (κ := 12) (i := 0) (g := (fun _ => 0)) rfl hD0_10 hp_10 hi_10, cput_127]; exact hP
      have hD : va_D A (cW cI cZ cP cF q S11) := by rw [eS11, ← cW_put (k := 127) (κ := 12) (i := 0) (g := (fun _ => 0)) rfl hD0_10 hp_10 hi_10, cput_127]; exact hD
      have hN : S11.2 = S.2 := by rw [eS11]; exact hN
      have h := h S11 eS11
      refine lv_goto (tgt := 44) hx hb dX7_giveBack_32 (by decide) ?_
      exact W.vret hx hb hr (fun t ht hW => ⟨⟨S11, rfl, h, by rw [ht]; exact hP, hD, hN⟩, hS.F ht⟩) hS.2.2 dX7_giveBack_44
    · have h := h.2 hn_6
      rw [show va_rf (cno q 22 r5) = .ref (q 22 (r5 : Int32).toNatClampNeg) from cn_pos hn_6]
      refine lv_astore_n (lv' := [(3, .ref (q 22 ((r5 : Int32).toNatClampNeg))), (0, .ref (q 12 0)), (1, .ref (q 22 i1)), (2, .int a2)]) hx hb dX7_giveBack_14 rfl hl (by decide) rfl (fun ls hl => ?_)
      refine lv_aload_n hx hb dX7_giveBack_15 rfl (lv_at hl 0 rfl) ?_
      refine lv_ifnonnull (tgt := 35) hx hb dX7_giveBack_16 (by decide) ?_
      refine lv_aload_n hx hb dX7_giveBack_35 rfl (lv_at hl 0 rfl) ?_
      refine lv_aload_n hx hb dX7_giveBack_36 rfl (lv_at hl 2 rfl) ?_
      have hi_12 := h.1
      have h := h.2
      obtain ⟨p_12, hp_12⟩ := cget_22 cI cZ cP cF q S3 hi_12
      refine va_get (D := D) (ci := 4) (v := .int (cv S3 223 i1 0)) (C := RX4) (T := TX4) (N := 5) hx hb hts (fun _ h => List.mem_cons_of_mem _ (List.mem_append_right _ h)) hown hK hP p_12 hp_12 rfl 3 (by decide) (hts (.fieldLink RX7 100 "TemplateForge$Frame" "into" "I") (List.mem_of_getElem? (i := 11) rfl)) (fun _ h9 => h9) rfl dX7_giveBack_37 ?_
      refine lv_iload_n hx hb dX7_giveBack_40 rfl (lv_at hl 3 rfl) ?_
      have hi_13 := h.1
      have h := h.2
      obtain ⟨p_13, hp_13⟩ := cget_22 cI cZ cP cF q S3 hi_13
      have hFc := zm_free hD hS hA
      refine va_callv (va_runV (As := [.int (cv S3 223 i1 0), .int a2]) (rest := []) ⟨hx, hb, hml, hown, hts⟩ (zd_X4_put l D cI cZ cP cF q S3 ((r5 : Int32).toNatClampNeg) (cv S3 223 i1 0) a2 H.size _ h) (cwV 2 hts zg_zd_X7_giveBack_zd_X4_put_107 rfl rfl rfl (by decide +kernel) ⟨Nat.le_of_ble_eq_true rfl, Nat.le_of_ble_eq_true rfl⟩) ⟨zCW, va_recv hK hP (ci := 4) (q0 := p_13) rfl hp_13, fun U hU hW => ⟨rfl, by rw [hU], by rw [hU]; exact hP, hE.warm hW, hD.weaken (fun _ _ _ _ => trivial)⟩⟩ rfl rfl hl.1 rfl (lv_room (Nat.le_of_ble_eq_true rfl)) dX7_giveBack_41 ⟨Nat.le_of_ble_eq_true rfl, Nat.le_of_ble_eq_true rfl⟩) hS (fun q _ h => hFc q h) hFc (fun S14 t H locs ht hvm h hB hz1 hk1 hS => ?_)
      obtain ⟨hP, hD1, hN1⟩ := hB
      rw [ht] at hP
      have hD := hD1.weaken (fun k q _ hq => hFc q.1 hq)
      have hN := hN1.trans hN
      exact W.vret hx hb hr (fun t ht hW => ⟨⟨S14, rfl, h, by rw [ht]; exact hP, hD, hN⟩, hS.F ht⟩) hS.2.2 dX7_giveBack_44
  exact key _ _ hP va_S.rf

def wp_X7_newRow (S : CST) (i1 : Nat) (a2 : Int32) (a3 : Int32) (a4 : Int32) (Post : CST → Prop) : Prop :=
  ((0 ≤ a3) → ((((a3 : Int32) ≤ 20) → (wp_X2_renew S a2 a3 (fun S5 => Post S5))) ∧ ((¬ ((a3 : Int32) ≤ 20)) → (wp_X7_endByTrap S i1 5 a4 (fun S7 => Post S7))))) ∧ ((¬ (0 ≤ a3)) → (wp_X7_endByTrap S i1 4 a4 (fun S9 => Post S9)))
def zw_zd_X7_newRow_w0 : List Cond := [.fieldLink RX7 32 "TemplateForge$Machine" "data" "LTemplateForge$Data;", .code yX2_renew cX2_renew 3 none, .fieldLink RX2 15 "TemplateForge$Data" "lengths" "[I", .fieldLink RX2 18 "TemplateForge$Data" "items" "[I", .code yJ7_fill_fda19 cJ7_fill_fda19 5 none, .code yJ7_rangeCheck_23922 cJ7_rangeCheck_23922 3 none, .methodLink RJ7 13 yJ7_rangeCheck_23922, .static yJ7_rangeCheck_23922, .initialized RJ7, .methodLink RX2 27 yJ7_fill_fda19, .static yJ7_fill_fda19, .methodLink RX7 238 yX2_renew, .instanceMethod yX2_renew, .selects RX2 yX2_renew yX2_renew, .initialized RX2, .code yX7_endByTrap cX7_endByTrap 4 none]
def zw_zd_X7_newRow_w1 : List Cond := [.fieldLink RX7 53 "TemplateForge$Machine" "ending" "I", .fieldLink RX7 12 "TemplateForge$Machine" "tally" "LTemplateForge$Tally;", .fieldLink RX7 84 "TemplateForge$Frame" "program" "LTemplateForge$Program;", .fieldLink RX7 244 "TemplateForge$Program" "number" "I", .fieldLink RX7 49 "TemplateForge$Machine" "open" "I", .code yX10_noteTrap cX10_noteTrap 5 none, .fieldLink RX10 9 "TemplateForge$Tally" "trap" "[I", .methodLink RX7 247 yX10_noteTrap, .instanceMethod yX10_noteTrap, .selects RX10 yX10_noteTrap yX10_noteTrap, .initialized RX10, .methodLink RX7 205 yX7_endByTrap, .instanceMethod yX7_endByTrap, .selects RX7 yX7_endByTrap yX7_endByTrap, .initialized RX7]
def zw_zd_X7_newRow : List Cond := .code yX7_newRow cX7_newRow 5 none :: ((zw_zd_X7_newRow_w0 ++ (zw_zd_X7_newRow_w1)) ++ wsX70 ++ wsX20 ++ wsX40 ++ wsX80 ++ wsX100)
set_option maxRecDepth 100000 in
theorem zg_zd_X7_newRow_zd_X2_renew_238_a : GoodIn zw_zd_X7_newRow [.methodLink RX7 238 yX2_renew, .instanceMethod yX2_renew, .selects RX2 yX2_renew yX2_renew, .initialized RX2] := goodIn_r _ [12, 13, 14, 15] rfl (by decide +kernel)
set_option maxRecDepth 100000 in
theorem zg_zd_X7_newRow_zd_X2_renew_238_c : GoodIn zw_zd_X7_newRow [.code yX2_renew cX2_renew 3 none] := goodIn_r _ [2] rfl (by decide +kernel)
set_option maxRecDepth 100000 in
theorem zg_zd_X7_newRow_zd_X2_renew_238_0 : GoodIn zw_zd_X7_newRow zw_zd_X2_renew_w0 := goodIn_r _ [3, 4, 5, 6, 7, 8, 9, 10, 11] rfl (by decide +kernel)
theorem zg_zd_X7_newRow_zd_X2_renew_238 : GoodIn zw_zd_X7_newRow (wsV RX7 238 RX2 yX2_renew zw_zd_X2_renew) := goodIn_app zg_zd_X7_newRow_zd_X2_renew_238_a (goodIn_ca (a := (zw_zd_X2_renew_w0)) (show GoodIn zw_zd_X7_newRow (.code yX2_renew cX2_renew 3 none :: (zw_zd_X2_renew_w0)) from goodIn_app zg_zd_X7_newRow_zd_X2_renew_238_c (zg_zd_X7_newRow_zd_X2_renew_238_0)) (fun w h => ⟨(fun _ h => List.mem_cons_of_mem _ (List.mem_append_left _ (List.mem_append_left _ (List.mem_append_left _ (List.mem_append_right _ h))))) w h, good_of_word (List.all_eq_true.mp zgw_X2 w h)⟩))
set_option maxRecDepth 100000 in
theorem zg_zd_X7_newRow_zd_X7_endByTrap_205_a : GoodIn zw_zd_X7_newRow [.methodLink RX7 205 yX7_endByTrap, .instanceMethod yX7_endByTrap, .selects RX7 yX7_endByTrap yX7_endByTrap, .initialized RX7] := goodIn_r _ [28, 29, 30, 31] rfl (by decide +kernel)
set_option maxRecDepth 100000 in
theorem zg_zd_X7_newRow_zd_X7_endByTrap_205_c : GoodIn zw_zd_X7_newRow [.code yX7_endByTrap cX7_endByTrap 4 none] := goodIn_r _ [16] rfl (by decide +kernel)
set_option maxRecDepth 100000 in
theorem zg_zd_X7_newRow_zd_X7_endByTrap_205_0 : GoodIn zw_zd_X7_newRow zw_zd_X7_endByTrap_w0 := goodIn_r _ [17, 18, 19, 20, 21, 22, 23, 24, 25, 26, 27] rfl (by decide +kernel)
theorem zg_zd_X7_newRow_zd_X7_endByTrap_205 : GoodIn zw_zd_X7_newRow (wsV RX7 205 RX7 yX7_endByTrap zw_zd_X7_endByTrap) := goodIn_app zg_zd_X7_newRow_zd_X7_endByTrap_205_a (goodIn_ca (a := ((((zw_zd_X7_endByTrap_w0) ++ wsX70) ++ wsX40) ++ wsX80)) (goodIn_ca (a := (((zw_zd_X7_endByTrap_w0) ++ wsX70) ++ wsX40)) (goodIn_ca (a := ((zw_zd_X7_endByTrap_w0) ++ wsX70)) (goodIn_ca (a := (zw_zd_X7_endByTrap_w0)) (show GoodIn zw_zd_X7_newRow (.code yX7_endByTrap cX7_endByTrap 4 none :: (zw_zd_X7_endByTrap_w0)) from goodIn_app zg_zd_X7_newRow_zd_X7_endByTrap_205_c (zg_zd_X7_newRow_zd_X7_endByTrap_205_0)) (fun w h => ⟨(fun _ h => List.mem_cons_of_mem _ (List.mem_append_left _ (List.mem_append_left _ (List.mem_append_left _ (List.mem_append_left _ (List.mem_append_right _ h)))))) w h, good_of_word (List.all_eq_true.mp zgw_X7 w h)⟩)) (fun w h => ⟨(fun _ h => List.mem_cons_of_mem _ (List.mem_append_left _ (List.mem_append_left _ (List.mem_append_right _ h)))) w h, good_of_word (List.all_eq_true.mp zgw_X4 w h)⟩)) (fun w h => ⟨(fun _ h => List.mem_cons_of_mem _ (List.mem_append_left _ (List.mem_append_right _ h))) w h, good_of_word (List.all_eq_true.mp zgw_X8 w h)⟩)) (fun w h => ⟨(fun _ h => List.mem_cons_of_mem _ (List.mem_append_right _ h)) w h, good_of_word (List.all_eq_true.mp zgw_X10 w h)⟩))
set_option maxHeartbeats 16000000 in
set_option maxRecDepth 100000 in
theorem zd_X7_newRow (l : Launch) (D : va_G) (cI cZ cP cF : Nat) (q : Nat → Nat → Nat) (S : CST) (i1 : Nat) (a2 : Int32) (a3 : Int32) (a4 : Int32) (sz : Nat) (Post : CST → Prop) (h : wp_X7_newRow S i1 a2 a3 a4 Post) : Met l yX7_newRow zw_zd_X7_newRow ({ frames := 3, cells := 0, slots := 0, locals := 68 }) (va_Pc [.ref (q 12 0), .ref (q 22 i1), .int a2, .int a3, .int a4] (fun U => U.heap.size = sz ∧ va_P D vwCl (cW cI cZ cP cF q S) U.heap ∧ zF D cI cZ cP cF U ∧ va_D (fun _ => True) (cW cI cZ cP cF q S))) (va_Qv (fun S' => Post S') (fun (S' : CST) t => va_P D vwCl (cW cI cZ cP cF q S') t.heap ∧ va_D (va_A (cW cI cZ cP cF q S) sz) (cW cI cZ cP cF q S') ∧ S'.2 = S.2) (va_A (cW cI cZ cP cF q S) sz)) 0 0 (va_A (cW cI cZ cP cF q S) sz) := by
  unfold wp_X7_newRow at h
  refine Met.ofW (cc := cX7_newRow) (maxL := 5) (ret := none) (by decide) rfl ?_
  intro p e s m args below meth c s₁ B hml hv
  obtain ⟨rfl, hsz, hP, hE, hD0⟩ := hv
  have hx := B.exec
  have hb := B.bytes
  have hr := B.returns
  have hts := atoms_spec (ws := zw_zd_X7_newRow) B.pre
  have hown : s.vm.findClass RX7 = some m.cls := findClass_of_methodNamed B.named
  have hlocks := B.notSynchronized
  have hK := hE.k
  subst hsz
  have hD := hD0.self (sz := s.heap.size)
  generalize hAe : va_A (cW cI cZ cP cF q S) s.heap.size = A at hD ⊢
  have hA : ∀ q : Nat, s.heap.size ≤ q → A q := fun q h => by rw [← hAe]; exact Or.inr h
  have hN : S.2 = S.2 := rfl
  have hl := lv_entry ([.ref (q 12 0), .ref (q 22 i1), .int a2, .int a3, .int a4]) (n := 5) (Nat.le_of_ble_eq_true rfl)
  rw [lg_entry_eq]
  generalize (lg_sl ([.ref (q 12 0), .ref (q 22 i1), .int a2, .int a3, .int a4]) ++ List.replicate (5 - (lg_sl ([.ref (q 12 0), .ref (q 22 i1), .int a2, .int a3, .int a4])).length) Slot.unset).toArray = ls at hl ⊢
  have hl : lv_has ls 5 [(0, .ref (q 12 0)), (1, .ref (q 22 i1)), (2, .int a2), (3, .int a3), (4, .int a4)] := hl
  have key : ∀ (H : Heap) (locs : List Loc), va_P D vwCl (cW cI cZ cP cF q S) H → va_S A s.heap H locs → W p l e (headSpec zw_zd_X7_newRow ({ frames := 3, cells := 0, slots := 0, locals := 68 })).room s m ([.ref (q 12 0), .ref (q 22 i1), .int a2, .int a3, .int a4] : List Value).toArray below meth c H locs 0 0 (MQ below (va_Qv (fun S' => Post S') (fun (S' : CST) t => va_P D vwCl (cW cI cZ cP cF q S') t.heap ∧ va_D A (cW cI cZ cP cF q S') ∧ S'.2 = S.2) A) ([.ref (q 12 0), .ref (q 22 i1), .int a2, .int a3, .int a4] : List Value).toArray s 0 0 A) (F0 m 0 ls []) := by
    intro H locs hP hS
    refine lv_iload_n hx hb dX7_newRow_0 rfl (lv_at hl 3 rfl) ?_
    refine lv_if_ge (tgt := 15) hx hb dX7_newRow_1 (by decide) (fun c_1 => ?_) (fun c_1 => ?_)
    · have h := h.1 c_1
      refine lv_iload_n hx hb dX7_newRow_15 rfl (lv_at hl 3 rfl) ?_
      refine lv_bipush (v := 20) hx hb dX7_newRow_16 (by decide) ?_
      refine lv_icmp_le (tgt := 32) hx hb dX7_newRow_18 (by decide) (fun c_2 => ?_) (fun c_2 => ?_)
      · have h := h.1 c_2
        refine lv_aload_n hx hb dX7_newRow_32 rfl (lv_at hl 0 rfl) ?_
        obtain ⟨p_3, hp_3⟩ := cget_12 cI cZ cP cF q S
        have hi_3 : cin S 12 0 := Or.inl ⟨by decide, rfl⟩
        refine va_get (D := D) (ci := 7) (v := .ref (q 3 0)) (C := RX7) (T := TX7) (N := 10) hx hb hts (fun _ h => List.mem_cons_of_mem _ (List.mem_append_left _ (List.mem_append_left _ (List.mem_append_left _ (List.mem_append_left _ (List.mem_append_right _ h)))))) hown hK hP p_3 hp_3 rfl 1 (by decide) (hts (.fieldLink RX7 32 "TemplateForge$Machine" "data" "LTemplateForge$Data;") (List.mem_of_getElem? (i := 1) rfl)) (fun _ h9 => h9) rfl dX7_newRow_33 ?_
        refine lv_iload_n hx hb dX7_newRow_36 rfl (lv_at hl 2 rfl) ?_
        refine lv_iload_n hx hb dX7_newRow_37 rfl (lv_at hl 3 rfl) ?_
        obtain ⟨p_4, hp_4⟩ := cget_3 cI cZ cP cF q S
        have hi_4 : cin S 3 0 := Or.inl ⟨by decide, rfl⟩
        have hFc := zm_free hD hS hA
        refine va_callv (va_runV (As := [.int a2, .int a3]) (rest := []) ⟨hx, hb, hml, hown, hts⟩ (zd_X2_renew l D cI cZ cP cF q S a2 a3 H.size _ h) (cwV 2 hts zg_zd_X7_newRow_zd_X2_renew_238 rfl rfl rfl (by decide +kernel) ⟨Nat.le_of_ble_eq_true rfl, Nat.le_of_ble_eq_true rfl⟩) ⟨zCW, va_recv hK hP (ci := 2) (q0 := p_4) rfl hp_4, fun U hU hW => ⟨rfl, by rw [hU], by rw [hU]; exact hP, hE.warm hW, hD.weaken (fun _ _ _ _ => trivial)⟩⟩ rfl rfl hl.1 rfl (lv_room (Nat.le_of_ble_eq_true rfl)) dX7_newRow_38 ⟨Nat.le_of_ble_eq_true rfl, Nat.le_of_ble_eq_true rfl⟩) hS (fun q _ h => hFc q h) hFc (fun S5 t H locs ht hvm h hB hz1 hk1 hS => ?_)
        obtain ⟨hP, hD1, hN1⟩ := hB
        rw [ht] at hP
        have hD := hD1.weaken (fun k q _ hq => hFc q.1 hq)
        have hN := hN1.trans hN
        exact W.vret hx hb hr (fun t ht hW => ⟨⟨S5, rfl, h, by rw [ht]; exact hP, hD, hN⟩, hS.F ht⟩) hS.2.2 dX7_newRow_41
      · have h := h.2 c_2
        refine lv_aload_n hx hb dX7_newRow_21 rfl (lv_at hl 0 rfl) ?_
        refine lv_aload_n hx hb dX7_newRow_22 rfl (lv_at hl 1 rfl) ?_
        refine lv_iconst (v := 5) hx hb dX7_newRow_23 (by decide) ?_
        refine lv_iload hx hb dX7_newRow_24 (lv_at hl 4 rfl) ?_
        obtain ⟨p_6, hp_6⟩ := cget_12 cI cZ cP cF q S
        have hi_6 : cin S 12 0 := Or.inl ⟨by decide, rfl⟩
        have hFc := zm_free hD hS hA
        refine va_callv (va_runV (As := [.ref (q 22 i1), .int 5, .int a4]) (rest := []) ⟨hx, hb, hml, hown, hts⟩ (zd_X7_endByTrap l D cI cZ cP cF q S i1 5 a4 H.size _ h) (cwV 3 hts zg_zd_X7_newRow_zd_X7_endByTrap_205 rfl rfl rfl (by decide +kernel) ⟨Nat.le_of_ble_eq_true rfl, Nat.le_of_ble_eq_true rfl⟩) ⟨zCW, va_recv hK hP (ci := 7) (q0 := p_6) rfl hp_6, fun U hU hW => ⟨rfl, by rw [hU], by rw [hU]; exact hP, hE.warm hW, hD.weaken (fun _ _ _ _ => trivial)⟩⟩ rfl rfl hl.1 rfl (lv_room (Nat.le_of_ble_eq_true rfl)) dX7_newRow_26 ⟨Nat.le_of_ble_eq_true rfl, Nat.le_of_ble_eq_true rfl⟩) hS (fun q _ h => hFc q h) hFc (fun S7 t H locs ht hvm h hB hz1 hk1 hS => ?_)
        obtain ⟨hP, hD1, hN1⟩ := hB
        rw [ht] at hP
        have hD := hD1.weaken (fun k q _ hq => hFc q.1 hq)
        have hN := hN1.trans hN
        refine lv_goto (tgt := 41) hx hb dX7_newRow_29 (by decide) ?_
        exact W.vret hx hb hr (fun t ht hW => ⟨⟨S7, rfl, h, by rw [ht]; exact hP, hD, hN⟩, hS.F ht⟩) hS.2.2 dX7_newRow_41
    · have h := h.2 c_1
      refine lv_aload_n hx hb dX7_newRow_4 rfl (lv_at hl 0 rfl) ?_
      refine lv_aload_n hx hb dX7_newRow_5 rfl (lv_at hl 1 rfl) ?_
      refine lv_iconst (v := 4) hx hb dX7_newRow_6 (by decide) ?_
      refine lv_iload hx hb dX7_newRow_7 (lv_at hl 4 rfl) ?_
      obtain ⟨p_8, hp_8⟩ := cget_12 cI cZ cP cF q S
      have hi_8 : cin S 12 0 := Or.inl ⟨by decide, rfl⟩
      have hFc := zm_free hD hS hA
      refine va_callv (va_runV (As := [.ref (q 22 i1), .int 4, .int a4]) (rest := []) ⟨hx, hb, hml, hown, hts⟩ (zd_X7_endByTrap l D cI cZ cP cF q S i1 4 a4 H.size _ h) (cwV 3 hts zg_zd_X7_newRow_zd_X7_endByTrap_205 rfl rfl rfl (by decide +kernel) ⟨Nat.le_of_ble_eq_true rfl, Nat.le_of_ble_eq_true rfl⟩) ⟨zCW, va_recv hK hP (ci := 7) (q0 := p_8) rfl hp_8, fun U hU hW => ⟨rfl, by rw [hU], by rw [hU]; exact hP, hE.warm hW, hD.weaken (fun _ _ _ _ => trivial)⟩⟩ rfl rfl hl.1 rfl (lv_room (Nat.le_of_ble_eq_true rfl)) dX7_newRow_9 ⟨Nat.le_of_ble_eq_true rfl, Nat.le_of_ble_eq_true rfl⟩) hS (fun q _ h => hFc q h) hFc (fun S9 t H locs ht hvm h hB hz1 hk1 hS => ?_)
      obtain ⟨hP, hD1, hN1⟩ := hB
      rw [ht] at hP
      have hD := hD1.weaken (fun k q _ hq => hFc q.1 hq)
      have hN := hN1.trans hN
      refine lv_goto (tgt := 41) hx hb dX7_newRow_12 (by decide) ?_
      exact W.vret hx hb hr (fun t ht hW => ⟨⟨S9, rfl, h, by rw [ht]; exact hP, hD, hN⟩, hS.F ht⟩) hS.2.2 dX7_newRow_41
  exact key _ _ hP va_S.rf

def wp_X7_isThere (S : CST) (i1 : Nat) (a2 : Int32) (a3 : Int32) (a4 : Int32) (Post : CST → Int32 → Prop) : Prop :=
  wp_X2_lengthOf S a2 (fun r3 => ((¬ ((r3 : Int32) = (-1))) → ((((a3 : Int32) < 0) → (wp_X7_endByTrap S i1 3 a4 (fun S7 => Post S7 0))) ∧ ((¬ ((a3 : Int32) < 0)) → (wp_X2_lengthOf S a2 (fun r10 => (((a3 : Int32) < r10) → (Post S 1)) ∧ ((¬ ((a3 : Int32) < r10)) → (wp_X7_endByTrap S i1 3 a4 (fun S13 => Post S13 0)))))))) ∧ (((r3 : Int32) = (-1)) → (wp_X7_endByTrap S i1 2 a4 (fun S15 => Post S15 0))))
def zw_zd_X7_isThere_w0 : List Cond := [.fieldLink RX7 32 "TemplateForge$Machine" "data" "LTemplateForge$Data;", .code yX2_lengthOf cX2_lengthOf 2 (some .int), .fieldLink RX2 15 "TemplateForge$Data" "lengths" "[I", .methodLink RX7 241 yX2_lengthOf, .instanceMethod yX2_lengthOf, .selects RX2 yX2_lengthOf yX2_lengthOf, .initialized RX2, .code yX7_endByTrap cX7_endByTrap 4 none, .fieldLink RX7 53 "TemplateForge$Machine" "ending" "I", .fieldLink RX7 12 "TemplateForge$Machine" "tally" "LTemplateForge$Tally;", .fieldLink RX7 84 "TemplateForge$Frame" "program" "LTemplateForge$Program;", .fieldLink RX7 244 "TemplateForge$Program" "number" "I", .fieldLink RX7 49 "TemplateForge$Machine" "open" "I", .code yX10_noteTrap cX10_noteTrap 5 none, .fieldLink RX10 9 "TemplateForge$Tally" "trap" "[I", .methodLink RX7 247 yX10_noteTrap]
def zw_zd_X7_isThere_w1 : List Cond := [.instanceMethod yX10_noteTrap, .selects RX10 yX10_noteTrap yX10_noteTrap, .initialized RX10, .methodLink RX7 205 yX7_endByTrap, .instanceMethod yX7_endByTrap, .selects RX7 yX7_endByTrap yX7_endByTrap, .initialized RX7]
def zw_zd_X7_isThere : List Cond := .code yX7_isThere cX7_isThere 5 (some .boolean) :: ((zw_zd_X7_isThere_w0 ++ (zw_zd_X7_isThere_w1)) ++ wsX70 ++ wsX20 ++ wsX40 ++ wsX80 ++ wsX100)
set_option maxRecDepth 100000 in
theorem zg_zd_X7_isThere_zd_X2_lengthOf_241_a : GoodIn zw_zd_X7_isThere [.methodLink RX7 241 yX2_lengthOf, .instanceMethod yX2_lengthOf, .selects RX2 yX2_lengthOf yX2_lengthOf, .initialized RX2] := goodIn_r _ [4, 5, 6, 7] rfl (by decide +kernel)
set_option maxRecDepth 100000 in
theorem zg_zd_X7_isThere_zd_X2_lengthOf_241_c : GoodIn zw_zd_X7_isThere [.code yX2_lengthOf cX2_lengthOf 2 (some .int)] := goodIn_r _ [2] rfl (by decide +kernel)
set_option maxRecDepth 100000 in
theorem zg_zd_X7_isThere_zd_X2_lengthOf_241_0 : GoodIn zw_zd_X7_isThere zw_zd_X2_lengthOf_w0 := goodIn_r _ [3] rfl (by decide +kernel)
theorem zg_zd_X7_isThere_zd_X2_lengthOf_241 : GoodIn zw_zd_X7_isThere (wsV RX7 241 RX2 yX2_lengthOf zw_zd_X2_lengthOf) := goodIn_app zg_zd_X7_isThere_zd_X2_lengthOf_241_a (goodIn_ca (a := (zw_zd_X2_lengthOf_w0)) (show GoodIn zw_zd_X7_isThere (.code yX2_lengthOf cX2_lengthOf 2 (some .int) :: (zw_zd_X2_lengthOf_w0)) from goodIn_app zg_zd_X7_isThere_zd_X2_lengthOf_241_c (zg_zd_X7_isThere_zd_X2_lengthOf_241_0)) (fun w h => ⟨(fun _ h => List.mem_cons_of_mem _ (List.mem_append_left _ (List.mem_append_left _ (List.mem_append_left _ (List.mem_append_right _ h))))) w h, good_of_word (List.all_eq_true.mp zgw_X2 w h)⟩))
set_option maxRecDepth 100000 in
theorem zg_zd_X7_isThere_zd_X7_endByTrap_205_a : GoodIn zw_zd_X7_isThere [.methodLink RX7 205 yX7_endByTrap, .instanceMethod yX7_endByTrap, .selects RX7 yX7_endByTrap yX7_endByTrap, .initialized RX7] := goodIn_r _ [20, 21, 22, 23] rfl (by decide +kernel)
set_option maxRecDepth 100000 in
theorem zg_zd_X7_isThere_zd_X7_endByTrap_205_c : GoodIn zw_zd_X7_isThere [.code yX7_endByTrap cX7_endByTrap 4 none] := goodIn_r _ [8] rfl (by decide +kernel)
set_option maxRecDepth 100000 in
theorem zg_zd_X7_isThere_zd_X7_endByTrap_205_0 : GoodIn zw_zd_X7_isThere zw_zd_X7_endByTrap_w0 := goodIn_r _ [9, 10, 11, 12, 13, 14, 15, 16, 17, 18, 19] rfl (by decide +kernel)
theorem zg_zd_X7_isThere_zd_X7_endByTrap_205 : GoodIn zw_zd_X7_isThere (wsV RX7 205 RX7 yX7_endByTrap zw_zd_X7_endByTrap) := goodIn_app zg_zd_X7_isThere_zd_X7_endByTrap_205_a (goodIn_ca (a := ((((zw_zd_X7_endByTrap_w0) ++ wsX70) ++ wsX40) ++ wsX80)) (goodIn_ca (a := (((zw_zd_X7_endByTrap_w0) ++ wsX70) ++ wsX40)) (goodIn_ca (a := ((zw_zd_X7_endByTrap_w0) ++ wsX70)) (goodIn_ca (a := (zw_zd_X7_endByTrap_w0)) (show GoodIn zw_zd_X7_isThere (.code yX7_endByTrap cX7_endByTrap 4 none :: (zw_zd_X7_endByTrap_w0)) from goodIn_app zg_zd_X7_isThere_zd_X7_endByTrap_205_c (zg_zd_X7_isThere_zd_X7_endByTrap_205_0)) (fun w h => ⟨(fun _ h => List.mem_cons_of_mem _ (List.mem_append_left _ (List.mem_append_left _ (List.mem_append_left _ (List.mem_append_left _ (List.mem_append_right _ h)))))) w h, good_of_word (List.all_eq_true.mp zgw_X7 w h)⟩)) (fun w h => ⟨(fun _ h => List.mem_cons_of_mem _ (List.mem_append_left _ (List.mem_append_left _ (List.mem_append_right _ h)))) w h, good_of_word (List.all_eq_true.mp zgw_X4 w h)⟩)) (fun w h => ⟨(fun _ h => List.mem_cons_of_mem _ (List.mem_append_left _ (List.mem_append_right _ h))) w h, good_of_word (List.all_eq_true.mp zgw_X8 w h)⟩)) (fun w h => ⟨(fun _ h => List.mem_cons_of_mem _ (List.mem_append_right _ h)) w h, good_of_word (List.all_eq_true.mp zgw_X10 w h)⟩))
set_option maxHeartbeats 16000000 in
set_option maxRecDepth 100000 in
theorem zd_X7_isThere (l : Launch) (D : va_G) (cI cZ cP cF : Nat) (q : Nat → Nat → Nat) (S : CST) (i1 : Nat) (a2 : Int32) (a3 : Int32) (a4 : Int32) (sz : Nat) (Post : CST → Int32 → Prop) (h : wp_X7_isThere S i1 a2 a3 a4 Post) : Met l yX7_isThere zw_zd_X7_isThere ({ frames := 2, cells := 0, slots := 0, locals := 47 }) (va_Pc [.ref (q 12 0), .ref (q 22 i1), .int a2, .int a3, .int a4] (fun U => U.heap.size = sz ∧ va_P D vwCl (cW cI cZ cP cF q S) U.heap ∧ zF D cI cZ cP cF U ∧ va_D (fun _ => True) (cW cI cZ cP cF q S))) (va_Qi (fun r S' => Post S' r) (fun (S' : CST) t => va_P D vwCl (cW cI cZ cP cF q S') t.heap ∧ va_D (va_A (cW cI cZ cP cF q S) sz) (cW cI cZ cP cF q S') ∧ S'.2 = S.2) (va_A (cW cI cZ cP cF q S) sz)) 0 0 (va_A (cW cI cZ cP cF q S) sz) := by
  unfold wp_X7_isThere at h
  refine Met.ofW (cc := cX7_isThere) (maxL := 5) (ret := (some .boolean)) (by decide) rfl ?_
  intro p e s m args below meth c s₁ B hml hv
  obtain ⟨rfl, hsz, hP, hE, hD0⟩ := hv
  have hx := B.exec
  have hb := B.bytes
  have hr := B.returns
  have hts := atoms_spec (ws := zw_zd_X7_isThere) B.pre
  have hown : s.vm.findClass RX7 = some m.cls := findClass_of_methodNamed B.named
  have hlocks := B.notSynchronized
  have hK := hE.k
  subst hsz
  have hD := hD0.self (sz := s.heap.size)
  generalize hAe : va_A (cW cI cZ cP cF q S) s.heap.size = A at hD ⊢
  have hA : ∀ q : Nat, s.heap.size ≤ q → A q := fun q h => by rw [← hAe]; exact Or.inr h
  have hN : S.2 = S.2 := rfl
  have hl := lv_entry ([.ref (q 12 0), .ref (q 22 i1), .int a2, .int a3, .int a4]) (n := 5) (Nat.le_of_ble_eq_true rfl)
  rw [lg_entry_eq]
  generalize (lg_sl ([.ref (q 12 0), .ref (q 22 i1), .int a2, .int a3, .int a4]) ++ List.replicate (5 - (lg_sl ([.ref (q 12 0), .ref (q 22 i1), .int a2, .int a3, .int a4])).length) Slot.unset).toArray = ls at hl ⊢
  have hl : lv_has ls 5 [(0, .ref (q 12 0)), (1, .ref (q 22 i1)), (2, .int a2), (3, .int a3), (4, .int a4)] := hl
  have key : ∀ (H : Heap) (locs : List Loc), va_P D vwCl (cW cI cZ cP cF q S) H → va_S A s.heap H locs → W p l e (headSpec zw_zd_X7_isThere ({ frames := 2, cells := 0, slots := 0, locals := 47 })).room s m ([.ref (q 12 0), .ref (q 22 i1), .int a2, .int a3, .int a4] : List Value).toArray below meth c H locs 0 0 (MQ below (va_Qi (fun r S' => Post S' r) (fun (S' : CST) t => va_P D vwCl (cW cI cZ cP cF q S') t.heap ∧ va_D A (cW cI cZ cP cF q S') ∧ S'.2 = S.2) A) ([.ref (q 12 0), .ref (q 22 i1), .int a2, .int a3, .int a4] : List Value).toArray s 0 0 A) (F0 m 0 ls []) := by
    intro H locs hP hS
    refine lv_aload_n hx hb dX7_isThere_0 rfl (lv_at hl 0 rfl) ?_
    obtain ⟨p_1, hp_1⟩ := cget_12 cI cZ cP cF q S
    have hi_1 : cin S 12 0 := Or.inl ⟨by decide, rfl⟩
    refine va_get (D := D) (ci := 7) (v := .ref (q 3 0)) (C := RX7) (T := TX7) (N := 10) hx hb hts (fun _ h => List.mem_cons_of_mem _ (List.mem_append_left _ (List.mem_append_left _ (List.mem_append_left _ (List.mem_append_left _ (List.mem_append_right _ h)))))) hown hK hP p_1 hp_1 rfl 1 (by decide) (hts (.fieldLink RX7 32 "TemplateForge$Machine" "data" "LTemplateForge$Data;") (List.mem_of_getElem? (i := 1) rfl)) (fun _ h9 => h9) rfl dX7_isThere_1 ?_
    refine lv_iload_n hx hb dX7_isThere_4 rfl (lv_at hl 2 rfl) ?_
    obtain ⟨p_2, hp_2⟩ := cget_3 cI cZ cP cF q S
    have hi_2 : cin S 3 0 := Or.inl ⟨by decide, rfl⟩
    refine vp_callSi (va_Run.run (va_runV (As := [.int a2]) (rest := []) ⟨hx, hb, hml, hown, hts⟩ (zd_X2_lengthOf l D cI cZ cP cF q S a2  _ h) (cwV 1 hts zg_zd_X7_isThere_zd_X2_lengthOf_241 rfl rfl rfl (by decide +kernel) ⟨Nat.le_of_ble_eq_true rfl, Nat.le_of_ble_eq_true rfl⟩) ⟨zCR, va_recv hK hP (ci := 2) (q0 := p_2) rfl hp_2, fun U hU hW => ⟨rfl, by rw [hU]; exact hP, hE.warm hW⟩⟩ rfl rfl hl.1 rfl (lv_room (Nat.le_of_ble_eq_true rfl)) dX7_isThere_5 ⟨Nat.le_of_ble_eq_true rfl, Nat.le_of_ble_eq_true rfl⟩)) (fun r3 h => ?_)
    refine lv_iconst (v := (-1)) hx hb dX7_isThere_8 (by decide) ?_
    refine lv_icmp_ne (tgt := 22) hx hb dX7_isThere_9 (by decide) (fun c_4 => ?_) (fun c_4 => ?_)
    · have h := h.1 c_4
      refine lv_iload_n hx hb dX7_isThere_22 rfl (lv_at hl 3 rfl) ?_
      refine lv_if_lt (tgt := 38) hx hb dX7_isThere_23 (by decide) (fun c_5 => ?_) (fun c_5 => ?_)
      · have h := h.1 c_5
        refine lv_aload_n hx hb dX7_isThere_38 rfl (lv_at hl 0 rfl) ?_
        refine lv_aload_n hx hb dX7_isThere_39 rfl (lv_at hl 1 rfl) ?_
        refine lv_iconst (v := 3) hx hb dX7_isThere_40 (by decide) ?_
        refine lv_iload hx hb dX7_isThere_41 (lv_at hl 4 rfl) ?_
        obtain ⟨p_6, hp_6⟩ := cget_12 cI cZ cP cF q S
        have hi_6 : cin S 12 0 := Or.inl ⟨by decide, rfl⟩
        have hFc := zm_free hD hS hA
        refine va_callv (va_runV (As := [.ref (q 22 i1), .int 3, .int a4]) (rest := []) ⟨hx, hb, hml, hown, hts⟩ (zd_X7_endByTrap l D cI cZ cP cF q S i1 3 a4 H.size _ h) (cwV 3 hts zg_zd_X7_isThere_zd_X7_endByTrap_205 rfl rfl rfl (by decide +kernel) ⟨Nat.le_of_ble_eq_true rfl, Nat.le_of_ble_eq_true rfl⟩) ⟨zCW, va_recv hK hP (ci := 7) (q0 := p_6) rfl hp_6, fun U hU hW => ⟨rfl, by rw [hU], by rw [hU]; exact hP, hE.warm hW, hD.weaken (fun _ _ _ _ => trivial)⟩⟩ rfl rfl hl.1 rfl (lv_room (Nat.le_of_ble_eq_true rfl)) dX7_isThere_43 ⟨Nat.le_of_ble_eq_true rfl, Nat.le_of_ble_eq_true rfl⟩) hS (fun q _ h => hFc q h) hFc (fun S7 t H locs ht hvm h hB hz1 hk1 hS => ?_)
        obtain ⟨hP, hD1, hN1⟩ := hB
        rw [ht] at hP
        have hD := hD1.weaken (fun k q _ hq => hFc q.1 hq)
        have hN := hN1.trans hN
        refine lv_iconst (v := 0) hx hb dX7_isThere_46 (by decide) ?_
        exact W.zret (v := 0) (ty := .boolean) hx hb hr (by decide) (fun t ht hW => ⟨⟨_, S7, rfl, h, by rw [ht]; exact hP, hD, hN⟩, hS.F ht⟩) hS.2.2 dX7_isThere_47
      · have h := h.2 c_5
        refine lv_iload_n hx hb dX7_isThere_26 rfl (lv_at hl 3 rfl) ?_
        refine lv_aload_n hx hb dX7_isThere_27 rfl (lv_at hl 0 rfl) ?_
        obtain ⟨p_8, hp_8⟩ := cget_12 cI cZ cP cF q S
        have hi_8 : cin S 12 0 := Or.inl ⟨by decide, rfl⟩
        refine va_get (D := D) (ci := 7) (v := .ref (q 3 0)) (C := RX7) (T := TX7) (N := 10) hx hb hts (fun _ h => List.mem_cons_of_mem _ (List.mem_append_left _ (List.mem_append_left _ (List.mem_append_left _ (List.mem_append_left _ (List.mem_append_right _ h)))))) hown hK hP p_8 hp_8 rfl 1 (by decide) (hts (.fieldLink RX7 32 "TemplateForge$Machine" "data" "LTemplateForge$Data;") (List.mem_of_getElem? (i := 1) rfl)) (fun _ h9 => h9) rfl dX7_isThere_28 ?_
        refine lv_iload_n hx hb dX7_isThere_31 rfl (lv_at hl 2 rfl) ?_
        obtain ⟨p_9, hp_9⟩ := cget_3 cI cZ cP cF q S
        have hi_9 : cin S 3 0 := Or.inl ⟨by decide, rfl⟩
        refine vp_callSi (va_Run.run (va_runV (As := [.int a2]) (rest := [.int a3]) ⟨hx, hb, hml, hown, hts⟩ (zd_X2_lengthOf l D cI cZ cP cF q S a2  _ h) (cwV 1 hts zg_zd_X7_isThere_zd_X2_lengthOf_241 rfl rfl rfl (by decide +kernel) ⟨Nat.le_of_ble_eq_true rfl, Nat.le_of_ble_eq_true rfl⟩) ⟨zCR, va_recv hK hP (ci := 2) (q0 := p_9) rfl hp_9, fun U hU hW => ⟨rfl, by rw [hU]; exact hP, hE.warm hW⟩⟩ rfl rfl hl.1 rfl (lv_room (Nat.le_of_ble_eq_true rfl)) dX7_isThere_32 ⟨Nat.le_of_ble_eq_true rfl, Nat.le_of_ble_eq_true rfl⟩)) (fun r10 h => ?_)
        refine lv_icmp_lt (tgt := 48) hx hb dX7_isThere_35 (by decide) (fun c_11 => ?_) (fun c_11 => ?_)
        · have h := h.1 c_11
          refine lv_iconst (v := 1) hx hb dX7_isThere_48 (by decide) ?_
          exact W.zret (v := 1) (ty := .boolean) hx hb hr (by decide) (fun t ht hW => ⟨⟨_, S, rfl, h, by rw [ht]; exact hP, hD, hN⟩, hS.F ht⟩) hS.2.2 dX7_isThere_49
        · have h := h.2 c_11
          refine lv_aload_n hx hb dX7_isThere_38 rfl (lv_at hl 0 rfl) ?_
          refine lv_aload_n hx hb dX7_isThere_39 rfl (lv_at hl 1 rfl) ?_
          refine lv_iconst (v := 3) hx hb dX7_isThere_40 (by decide) ?_
          refine lv_iload hx hb dX7_isThere_41 (lv_at hl 4 rfl) ?_
          obtain ⟨p_12, hp_12⟩ := cget_12 cI cZ cP cF q S
          have hi_12 : cin S 12 0 := Or.inl ⟨by decide, rfl⟩
          have hFc := zm_free hD hS hA
          refine va_callv (va_runV (As := [.ref (q 22 i1), .int 3, .int a4]) (rest := []) ⟨hx, hb, hml, hown, hts⟩ (zd_X7_endByTrap l D cI cZ cP cF q S i1 3 a4 H.size _ h) (cwV 3 hts zg_zd_X7_isThere_zd_X7_endByTrap_205 rfl rfl rfl (by decide +kernel) ⟨Nat.le_of_ble_eq_true rfl, Nat.le_of_ble_eq_true rfl⟩) ⟨zCW, va_recv hK hP (ci := 7) (q0 := p_12) rfl hp_12, fun U hU hW => ⟨rfl, by rw [hU], by rw [hU]; exact hP, hE.warm hW, hD.weaken (fun _ _ _ _ => trivial)⟩⟩ rfl rfl hl.1 rfl (lv_room (Nat.le_of_ble_eq_true rfl)) dX7_isThere_43 ⟨Nat.le_of_ble_eq_true rfl, Nat.le_of_ble_eq_true rfl⟩) hS (fun q _ h => hFc q h) hFc (fun S13 t H locs ht hvm h hB hz1 hk1 hS => ?_)
          obtain ⟨hP, hD1, hN1⟩ := hB
          rw [ht] at hP
          have hD := hD1.weaken (fun k q _ hq => hFc q.1 hq)
          have hN := hN1.trans hN
          refine lv_iconst (v := 0) hx hb dX7_isThere_46 (by decide) ?_
          exact W.zret (v := 0) (ty := .boolean) hx hb hr (by decide) (fun t ht hW => ⟨⟨_, S13, rfl, h, by rw [ht]; exact hP, hD, hN⟩, hS.F ht⟩) hS.2.2 dX7_isThere_47
    · have h := h.2 c_4
      refine lv_aload_n hx hb dX7_isThere_12 rfl (lv_at hl 0 rfl) ?_
      refine lv_aload_n hx hb dX7_isThere_13 rfl (lv_at hl 1 rfl) ?_
      refine lv_iconst (v := 2) hx hb dX7_isThere_14 (by decide) ?_
      refine lv_iload hx hb dX7_isThere_15 (lv_at hl 4 rfl) ?_
      obtain ⟨p_14, hp_14⟩ := cget_12 cI cZ cP cF q S
      have hi_14 : cin S 12 0 := Or.inl ⟨by decide, rfl⟩
      have hFc := zm_free hD hS hA
      refine va_callv (va_runV (As := [.ref (q 22 i1), .int 2, .int a4]) (rest := []) ⟨hx, hb, hml, hown, hts⟩ (zd_X7_endByTrap l D cI cZ cP cF q S i1 2 a4 H.size _ h) (cwV 3 hts zg_zd_X7_isThere_zd_X7_endByTrap_205 rfl rfl rfl (by decide +kernel) ⟨Nat.le_of_ble_eq_true rfl, Nat.le_of_ble_eq_true rfl⟩) ⟨zCW, va_recv hK hP (ci := 7) (q0 := p_14) rfl hp_14, fun U hU hW => ⟨rfl, by rw [hU], by rw [hU]; exact hP, hE.warm hW, hD.weaken (fun _ _ _ _ => trivial)⟩⟩ rfl rfl hl.1 rfl (lv_room (Nat.le_of_ble_eq_true rfl)) dX7_isThere_17 ⟨Nat.le_of_ble_eq_true rfl, Nat.le_of_ble_eq_true rfl⟩) hS (fun q _ h => hFc q h) hFc (fun S15 t H locs ht hvm h hB hz1 hk1 hS => ?_)
      obtain ⟨hP, hD1, hN1⟩ := hB
      rw [ht] at hP
      have hD := hD1.weaken (fun k q _ hq => hFc q.1 hq)
      have hN := hN1.trans hN
      refine lv_iconst (v := 0) hx hb dX7_isThere_20 (by decide) ?_
      exact W.zret (v := 0) (ty := .boolean) hx hb hr (by decide) (fun t ht hW => ⟨⟨_, S15, rfl, h, by rw [ht]; exact hP, hD, hN⟩, hS.F ht⟩) hS.2.2 dX7_isThere_21
  exact key _ _ hP va_S.rf

def wp_X7_guard (S : CST) (i1 : Nat) (a2 : Int32) (a3 : Int32) (a4 : Int32) (Post : CST → Prop) : Prop :=
  (((a3 : Int32) = 0) → (cin S 22 i1 ∧ (((cv S 220 i1 0) < 0) → (False)) ∧ ((¬ ((cv S 220 i1 0) < 0)) → (cin S 24 (((cv S 220 i1 0) : Int32).toNatClampNeg) ∧ (cin S 22 i1 ∧ (((cv S 220 i1 0) < 0) → (False)) ∧ ((¬ ((cv S 220 i1 0) < 0)) → (cin S 24 (((cv S 220 i1 0) : Int32).toNatClampNeg) ∧ (((cv S 249 (((cv S 220 i1 0) : Int32).toNatClampNeg) 0) < 0) → (∀ S12 : CST, S12 = cs S 204 0 (fun _ => (cv S 204 0 0) + 1) → (cin S12 28 (((cv S 220 i1 0) : Int32).toNatClampNeg) ∧ (cin S12 28 (((cv S 220 i1 0) : Int32).toNatClampNeg) ∧ (∀ S15 : CST, S15 = cs S12 284 (((cv S 220 i1 0) : Int32).toNatClampNeg) (fun _ => (cv S12 284 (((cv S 220 i1 0) : Int32).toNatClampNeg) 0) + 1) → (cin S15 28 (((cv S 220 i1 0) : Int32).toNatClampNeg) ∧ (wp_X5_markVarying S15 (((cv S 220 i1 0) : Int32).toNatClampNeg) a2 (fun S17 => cin S17 28 (((cv S 220 i1 0) : Int32).toNatClampNeg) ∧ (((((cv S17 280 (((cv S 220 i1 0) : Int32).toNatClampNeg) 0) : Int32) = 0) → (cin S17 22 i1 ∧ (cin S17 22 i1 ∧ (((cv S17 221 i1 0) < 0) → (False)) ∧ ((¬ ((cv S17 221 i1 0) < 0)) → (cin S17 32 (((cv S17 221 i1 0) : Int32).toNatClampNeg) ∧ ((((cv S17 321 (((cv S17 221 i1 0) : Int32).toNatClampNeg) 0) < (cv S17 222 i1 0)) → (cin S17 22 i1 ∧ (∀ S26 : CST, S26 = cs S17 221 i1 (fun _ => (-1)) → (cin S26 22 i1 ∧ (∀ S28 : CST, S28 = cs S26 222 i1 (fun _ => 0) → (Post S28)))))) ∧ ((¬ ((cv S17 321 (((cv S17 221 i1 0) : Int32).toNatClampNeg) 0) < (cv S17 222 i1 0))) → (cin S17 22 i1 ∧ (∀ S30 : CST, S30 = cs S17 221 i1 (fun _ => (-1)) → (cin S30 22 i1 ∧ (∀ S32 : CST, S32 = cs S30 222 i1 (fun _ => 0) → (Post S32)))))))))))) ∧ ((¬ (((cv S17 280 (((cv S 220 i1 0) : Int32).toNatClampNeg) 0) : Int32) = 0)) → (cin S17 28 (((cv S 220 i1 0) : Int32).toNatClampNeg) ∧ (cin S17 22 i1 ∧ (((cv S17 221 i1 0) < 0) → (False)) ∧ ((¬ ((cv S17 221 i1 0) < 0)) → (cin S17 32 (((cv S17 221 i1 0) : Int32).toNatClampNeg) ∧ (((¬ (((cv S17 283 (((cv S 220 i1 0) : Int32).toNatClampNeg) 0) : Int32) = (cv S17 320 (((cv S17 221 i1 0) : Int32).toNatClampNeg) 0))) → (cin S17 22 i1 ∧ (cin S17 22 i1 ∧ (((cv S17 221 i1 0) < 0) → (False)) ∧ ((¬ ((cv S17 221 i1 0) < 0)) → (cin S17 32 (((cv S17 221 i1 0) : Int32).toNatClampNeg) ∧ ((((cv S17 321 (((cv S17 221 i1 0) : Int32).toNatClampNeg) 0) < (cv S17 222 i1 0)) → (cin S17 22 i1 ∧ (∀ S44 : CST, S44 = cs S17 221 i1 (fun _ => (-1)) → (cin S44 22 i1 ∧ (∀ S46 : CST, S46 = cs S44 222 i1 (fun _ => 0) → (Post S46)))))) ∧ ((¬ ((cv S17 321 (((cv S17 221 i1 0) : Int32).toNatClampNeg) 0) < (cv S17 222 i1 0))) → (cin S17 22 i1 ∧ (∀ S48 : CST, S48 = cs S17 221 i1 (fun _ => (-1)) → (cin S48 22 i1 ∧ (∀ S50 : CST, S50 = cs S48 222 i1 (fun _ => 0) → (Post S50)))))))))))) ∧ ((((cv S17 283 (((cv S 220 i1 0) : Int32).toNatClampNeg) 0) : Int32) = (cv S17 320 (((cv S17 221 i1 0) : Int32).toNatClampNeg) 0)) → (cin S17 28 (((cv S 220 i1 0) : Int32).toNatClampNeg) ∧ (wp_X5_throwAway S17 (((cv S 220 i1 0) : Int32).toNatClampNeg) (fun S52 => cin S52 22 i1 ∧ (cin S52 22 i1 ∧ (((cv S52 221 i1 0) < 0) → (False)) ∧ ((¬ ((cv S52 221 i1 0) < 0)) → (cin S52 32 (((cv S52 221 i1 0) : Int32).toNatClampNeg) ∧ ((((cv S52 321 (((cv S52 221 i1 0) : Int32).toNatClampNeg) 0) < (cv S52 222 i1 0)) → (cin S52 22 i1 ∧ (∀ S59 : CST, S59 = cs S52 221 i1 (fun _ => (-1)) → (cin S59 22 i1 ∧ (∀ S61 : CST, S61 = cs S59 222 i1 (fun _ => 0) → (Post S61)))))) ∧ ((¬ ((cv S52 321 (((cv S52 221 i1 0) : Int32).toNatClampNeg) 0) < (cv S52 222 i1 0))) → (cin S52 22 i1 ∧ (∀ S63 : CST, S63 = cs S52 221 i1 (fun _ => (-1)) → (cin S63 22 i1 ∧ (∀ S65 : CST, S65 = cs S63 222 i1 (fun _ => 0) → (Post S65))))))))))))))))))))))))))))) ∧ ((¬ ((cv S 249 (((cv S 220 i1 0) : Int32).toNatClampNeg) 0) < 0)) → (∀ S69 : CST, S69 = cs S 204 0 (fun _ => (cv S 204 0 0) + 1) → (cin S69 28 (((cv S 220 i1 0) : Int32).toNatClampNeg) ∧ (cin S69 28 (((cv S 220 i1 0) : Int32).toNatClampNeg) ∧ (∀ S72 : CST, S72 = cs S69 284 (((cv S 220 i1 0) : Int32).toNatClampNeg) (fun _ => (cv S69 284 (((cv S 220 i1 0) : Int32).toNatClampNeg) 0) + 1) → (cin S72 28 (((cv S 220 i1 0) : Int32).toNatClampNeg) ∧ (wp_X5_markVarying S72 (((cv S 220 i1 0) : Int32).toNatClampNeg) a2 (fun S74 => cin S74 28 (((cv S 220 i1 0) : Int32).toNatClampNeg) ∧ (((((cv S74 280 (((cv S 220 i1 0) : Int32).toNatClampNeg) 0) : Int32) = 0) → (cin S74 22 i1 ∧ (cin S74 22 i1 ∧ (((cv S74 221 i1 0) < 0) → (False)) ∧ ((¬ ((cv S74 221 i1 0) < 0)) → (cin S74 32 (((cv S74 221 i1 0) : Int32).toNatClampNeg) ∧ ((((cv S74 321 (((cv S74 221 i1 0) : Int32).toNatClampNeg) 0) < (cv S74 222 i1 0)) → (cin S74 22 i1 ∧ (∀ S83 : CST, S83 = cs S74 221 i1 (fun _ => (cv S 249 (((cv S 220 i1 0) : Int32).toNatClampNeg) 0)) → (cin S83 32 (((cv S 249 (((cv S 220 i1 0) : Int32).toNatClampNeg) 0) : Int32).toNatClampNeg) ∧ (wp_X1_startOf S83 (((cv S 249 (((cv S 220 i1 0) : Int32).toNatClampNeg) 0) : Int32).toNatClampNeg) (a4 + 1) (fun r85 => cin S83 22 i1 ∧ (∀ S87 : CST, S87 = cs S83 222 i1 (fun _ => r85) → (Post S87)))))))) ∧ ((¬ ((cv S74 321 (((cv S74 221 i1 0) : Int32).toNatClampNeg) 0) < (cv S74 222 i1 0))) → (cin S74 22 i1 ∧ (∀ S89 : CST, S89 = cs S74 221 i1 (fun _ => (cv S 249 (((cv S 220 i1 0) : Int32).toNatClampNeg) 0)) → (cin S89 22 i1 ∧ (∀ S91 : CST, S91 = cs S89 222 i1 (fun _ => 0) → (Post S91)))))))))))) ∧ ((¬ (((cv S74 280 (((cv S 220 i1 0) : Int32).toNatClampNeg) 0) : Int32) = 0)) → (cin S74 28 (((cv S 220 i1 0) : Int32).toNatClampNeg) ∧ (cin S74 22 i1 ∧ (((cv S74 221 i1 0) < 0) → (False)) ∧ ((¬ ((cv S74 221 i1 0) < 0)) → (cin S74 32 (((cv S74 221 i1 0) : Int32).toNatClampNeg) ∧ (((¬ (((cv S74 283 (((cv S 220 i1 0) : Int32).toNatClampNeg) 0) : Int32) = (cv S74 320 (((cv S74 221 i1 0) : Int32).toNatClampNeg) 0))) → (cin S74 22 i1 ∧ (cin S74 22 i1 ∧ (((cv S74 221 i1 0) < 0) → (False)) ∧ ((¬ ((cv S74 221 i1 0) < 0)) → (cin S74 32 (((cv S74 221 i1 0) : Int32).toNatClampNeg) ∧ ((((cv S74 321 (((cv S74 221 i1 0) : Int32).toNatClampNeg) 0) < (cv S74 222 i1 0)) → (cin S74 22 i1 ∧ (∀ S103 : CST, S103 = cs S74 221 i1 (fun _ => (cv S 249 (((cv S 220 i1 0) : Int32).toNatClampNeg) 0)) → (cin S103 32 (((cv S 249 (((cv S 220 i1 0) : Int32).toNatClampNeg) 0) : Int32).toNatClampNeg) ∧ (wp_X1_startOf S103 (((cv S 249 (((cv S 220 i1 0) : Int32).toNatClampNeg) 0) : Int32).toNatClampNeg) (a4 + 1) (fun r105 => cin S103 22 i1 ∧ (∀ S107 : CST, S107 = cs S103 222 i1 (fun _ => r105) → (Post S107)))))))) ∧ ((¬ ((cv S74 321 (((cv S74 221 i1 0) : Int32).toNatClampNeg) 0) < (cv S74 222 i1 0))) → (cin S74 22 i1 ∧ (∀ S109 : CST, S109 = cs S74 221 i1 (fun _ => (cv S 249 (((cv S 220 i1 0) : Int32).toNatClampNeg) 0)) → (cin S109 22 i1 ∧ (∀ S111 : CST, S111 = cs S109 222 i1 (fun _ => 0) → (Post S111)))))))))))) ∧ ((((cv S74 283 (((cv S 220 i1 0) : Int32).toNatClampNeg) 0) : Int32) = (cv S74 320 (((cv S74 221 i1 0) : Int32).toNatClampNeg) 0)) → (cin S74 28 (((cv S 220 i1 0) : Int32).toNatClampNeg) ∧ (wp_X5_throwAway S74 (((cv S 220 i1 0) : Int32).toNatClampNeg) (fun S113 => cin S113 22 i1 ∧ (cin S113 22 i1 ∧ (((cv S113 221 i1 0) < 0) → (False)) ∧ ((¬ ((cv S113 221 i1 0) < 0)) → (cin S113 32 (((cv S113 221 i1 0) : Int32).toNatClampNeg) ∧ ((((cv S113 321 (((cv S113 221 i1 0) : Int32).toNatClampNeg) 0) < (cv S113 222 i1 0)) → (cin S113 22 i1 ∧ (∀ S120 : CST, S120 = cs S113 221 i1 (fun _ => (cv S 249 (((cv S 220 i1 0) : Int32).toNatClampNeg) 0)) → (cin S120 32 (((cv S 249 (((cv S 220 i1 0) : Int32).toNatClampNeg) 0) : Int32).toNatClampNeg) ∧ (wp_X1_startOf S120 (((cv S 249 (((cv S 220 i1 0) : Int32).toNatClampNeg) 0) : Int32).toNatClampNeg) (a4 + 1) (fun r122 => cin S120 22 i1 ∧ (∀ S124 : CST, S124 = cs S120 222 i1 (fun _ => r122) → (Post S124)))))))) ∧ ((¬ ((cv S113 321 (((cv S113 221 i1 0) : Int32).toNatClampNeg) 0) < (cv S113 222 i1 0))) → (cin S113 22 i1 ∧ (∀ S126 : CST, S126 = cs S113 221 i1 (fun _ => (cv S 249 (((cv S 220 i1 0) : Int32).toNatClampNeg) 0)) → (cin S126 22 i1 ∧ (∀ S128 : CST, S128 = cs S126 222 i1 (fun _ => 0) → (Post S128)))))))))))))))))))))))))))))))))))) ∧ ((¬ ((a3 : Int32) = 0)) → (Post S))
def zw_zd_X7_guard_w0 : List Cond := [.fieldLink RX7 84 "TemplateForge$Frame" "program" "LTemplateForge$Program;", .fieldLink RX7 115 "TemplateForge$Program" "heat" "LTemplateForge$Heat;", .fieldLink RX7 88 "TemplateForge$Program" "plain" "LTemplateForge$Code;", .fieldLink RX7 12 "TemplateForge$Machine" "tally" "LTemplateForge$Tally;", .fieldLink RX7 218 "TemplateForge$Tally" "failed" "I", .fieldLink RX7 221 "TemplateForge$Heat" "failed" "I", .code yX5_markVarying cX5_markVarying 2 none, .fieldLink RX5 19 "TemplateForge$Heat" "varying" "[Z", .methodLink RX7 222 yX5_markVarying, .instanceMethod yX5_markVarying, .selects RX5 yX5_markVarying yX5_markVarying, .initialized RX5, .fieldLink RX7 133 "TemplateForge$Heat" "hasCode" "Z", .fieldLink RX7 97 "TemplateForge$Frame" "place" "I", .fieldLink RX7 94 "TemplateForge$Frame" "code" "LTemplateForge$Code;", .fieldLink RX7 235 "TemplateForge$Code" "heads" "I"]
def zw_zd_X7_guard_w1 : List Cond := [.fieldLink RX7 226 "TemplateForge$Heat" "made" "I", .fieldLink RX7 229 "TemplateForge$Code" "making" "I", .code yX5_throwAway cX5_throwAway 1 none, .fieldLink RX5 22 "TemplateForge$Heat" "hasCode" "Z", .fieldLink RX5 26 "TemplateForge$Heat" "counted" "I", .methodLink RX7 232 yX5_throwAway, .instanceMethod yX5_throwAway, .selects RX5 yX5_throwAway yX5_throwAway, .code yX1_startOf cX1_startOf 2 (some .int), .code yX1_parts cX1_parts 1 (some .int), .fieldLink RX1 18 "TemplateForge$Code" "cells" "[I", .methodLink RX1 25 yX1_parts, .instanceMethod yX1_parts, .selects RX1 yX1_parts yX1_parts, .initialized RX1, .fieldLink RX1 22 "TemplateForge$Code" "starts" "[I"]
def zw_zd_X7_guard_w2 : List Cond := [.methodLink RX7 212 yX1_startOf, .instanceMethod yX1_startOf, .selects RX1 yX1_startOf yX1_startOf]
def zw_zd_X7_guard : List Cond := .code yX7_guard cX7_guard 8 none :: ((zw_zd_X7_guard_w0 ++ (zw_zd_X7_guard_w1 ++ (zw_zd_X7_guard_w2))) ++ wsX40 ++ wsX80 ++ wsX70 ++ wsX100 ++ wsX50 ++ wsX10)
set_option maxRecDepth 100000 in
theorem zg_zd_X7_guard_zd_X5_markVarying_222_a : GoodIn zw_zd_X7_guard [.methodLink RX7 222 yX5_markVarying, .instanceMethod yX5_markVarying, .selects RX5 yX5_markVarying yX5_markVarying, .initialized RX5] := goodIn_r _ [9, 10, 11, 12] rfl (by decide +kernel)
set_option maxRecDepth 100000 in
theorem zg_zd_X7_guard_zd_X5_markVarying_222_c : GoodIn zw_zd_X7_guard [.code yX5_markVarying cX5_markVarying 2 none] := goodIn_r _ [7] rfl (by decide +kernel)
set_option maxRecDepth 100000 in
theorem zg_zd_X7_guard_zd_X5_markVarying_222_0 : GoodIn zw_zd_X7_guard zw_zd_X5_markVarying_w0 := goodIn_r _ [8] rfl (by decide +kernel)
theorem zg_zd_X7_guard_zd_X5_markVarying_222 : GoodIn zw_zd_X7_guard (wsV RX7 222 RX5 yX5_markVarying zw_zd_X5_markVarying) := goodIn_app zg_zd_X7_guard_zd_X5_markVarying_222_a (goodIn_ca (a := (zw_zd_X5_markVarying_w0)) (show GoodIn zw_zd_X7_guard (.code yX5_markVarying cX5_markVarying 2 none :: (zw_zd_X5_markVarying_w0)) from goodIn_app zg_zd_X7_guard_zd_X5_markVarying_222_c (zg_zd_X7_guard_zd_X5_markVarying_222_0)) (fun w h => ⟨(fun _ h => List.mem_cons_of_mem _ (List.mem_append_left _ (List.mem_append_right _ h))) w h, good_of_word (List.all_eq_true.mp zgw_X5 w h)⟩))
set_option maxRecDepth 100000 in
theorem zg_zd_X7_guard_zd_X5_throwAway_232_a : GoodIn zw_zd_X7_guard [.methodLink RX7 232 yX5_throwAway, .instanceMethod yX5_throwAway, .selects RX5 yX5_throwAway yX5_throwAway, .initialized RX5] := goodIn_r _ [22, 23, 24, 12] rfl (by decide +kernel)
set_option maxRecDepth 100000 in
theorem zg_zd_X7_guard_zd_X5_throwAway_232_c : GoodIn zw_zd_X7_guard [.code yX5_throwAway cX5_throwAway 1 none] := goodIn_r _ [19] rfl (by decide +kernel)
set_option maxRecDepth 100000 in
theorem zg_zd_X7_guard_zd_X5_throwAway_232_0 : GoodIn zw_zd_X7_guard zw_zd_X5_throwAway_w0 := goodIn_r _ [20, 21] rfl (by decide +kernel)
theorem zg_zd_X7_guard_zd_X5_throwAway_232 : GoodIn zw_zd_X7_guard (wsV RX7 232 RX5 yX5_throwAway zw_zd_X5_throwAway) := goodIn_app zg_zd_X7_guard_zd_X5_throwAway_232_a (goodIn_ca (a := (zw_zd_X5_throwAway_w0)) (show GoodIn zw_zd_X7_guard (.code yX5_throwAway cX5_throwAway 1 none :: (zw_zd_X5_throwAway_w0)) from goodIn_app zg_zd_X7_guard_zd_X5_throwAway_232_c (zg_zd_X7_guard_zd_X5_throwAway_232_0)) (fun w h => ⟨(fun _ h => List.mem_cons_of_mem _ (List.mem_append_left _ (List.mem_append_right _ h))) w h, good_of_word (List.all_eq_true.mp zgw_X5 w h)⟩))
set_option maxRecDepth 100000 in
theorem zg_zd_X7_guard_zd_X1_startOf_212_a : GoodIn zw_zd_X7_guard [.methodLink RX7 212 yX1_startOf, .instanceMethod yX1_startOf, .selects RX1 yX1_startOf yX1_startOf, .initialized RX1] := goodIn_r _ [33, 34, 35, 31] rfl (by decide +kernel)
set_option maxRecDepth 100000 in
theorem zg_zd_X7_guard_zd_X1_startOf_212_c : GoodIn zw_zd_X7_guard [.code yX1_startOf cX1_startOf 2 (some .int)] := goodIn_r _ [25] rfl (by decide +kernel)
set_option maxRecDepth 100000 in
theorem zg_zd_X7_guard_zd_X1_startOf_212_0 : GoodIn zw_zd_X7_guard zw_zd_X1_startOf_w0 := goodIn_r _ [26, 27, 28, 29, 30, 31, 32] rfl (by decide +kernel)
theorem zg_zd_X7_guard_zd_X1_startOf_212 : GoodIn zw_zd_X7_guard (wsV RX7 212 RX1 yX1_startOf zw_zd_X1_startOf) := goodIn_app zg_zd_X7_guard_zd_X1_startOf_212_a (goodIn_ca (a := (zw_zd_X1_startOf_w0)) (show GoodIn zw_zd_X7_guard (.code yX1_startOf cX1_startOf 2 (some .int) :: (zw_zd_X1_startOf_w0)) from goodIn_app zg_zd_X7_guard_zd_X1_startOf_212_c (zg_zd_X7_guard_zd_X1_startOf_212_0)) (fun w h => ⟨(fun _ h => List.mem_cons_of_mem _ (List.mem_append_right _ h)) w h, good_of_word (List.all_eq_true.mp zgw_X1 w h)⟩))
set_option maxHeartbeats 16000000 in
set_option maxRecDepth 100000 in
theorem zd_X7_guard (l : Launch) (D : va_G) (cI cZ cP cF : Nat) (q : Nat → Nat → Nat) (S : CST) (i1 : Nat) (a2 : Int32) (a3 : Int32) (a4 : Int32) (sz : Nat) (Post : CST → Prop) (h : wp_X7_guard S i1 a2 a3 a4 Post) : Met l yX7_guard zw_zd_X7_guard ({ frames := 2, cells := 0, slots := 0, locals := 41 }) (va_Pc [.ref (q 12 0), .ref (q 22 i1), .int a2, .int a3, .int a4] (fun U => U.heap.size = sz ∧ va_P D vwCl (cW cI cZ cP cF q S) U.heap ∧ zF D cI cZ cP cF U ∧ va_D (fun _ => True) (cW cI cZ cP cF q S))) (va_Qv (fun S' => Post S') (fun (S' : CST) t => va_P D vwCl (cW cI cZ cP cF q S') t.heap ∧ va_D (va_A (cW cI cZ cP cF q S) sz) (cW cI cZ cP cF q S') ∧ S'.2 = S.2) (va_A (cW cI cZ cP cF q S) sz)) 0 0 (va_A (cW cI cZ cP cF q S) sz) := by
  unfold wp_X7_guard at h
  refine Met.ofW (cc := cX7_guard) (maxL := 8) (ret := none) (by decide) rfl ?_
  intro p e s m args below meth c s₁ B hml hv
  obtain ⟨rfl, hsz, hP, hE, hD0⟩ := hv
  have hx := B.exec
  have hb := B.bytes
  have hr := B.returns
  have hts := atoms_spec (ws := zw_zd_X7_guard) B.pre
  have hown : s.vm.findClass RX7 = some m.cls := findClass_of_methodNamed B.named
  have hlocks := B.notSynchronized
  have hK := hE.k
  subst hsz
  have hD := hD0.self (sz := s.heap.size)
  generalize hAe : va_A (cW cI cZ cP cF q S) s.heap.size = A at hD ⊢
  have hA : ∀ q : Nat, s.heap.size ≤ q → A q := fun q h => by rw [← hAe]; exact Or.inr h
  have hN : S.2 = S.2 := rfl
  have hl := lv_entry ([.ref (q 12 0), .ref (q 22 i1), .int a2, .int a3, .int a4]) (n := 8) (Nat.le_of_ble_eq_true rfl)
  rw [lg_entry_eq]
  generalize (lg_sl ([.ref (q 12 0), .ref (q 22 i1), .int a2, .int a3, .int a4]) ++ List.replicate (8 - (lg_sl ([.ref (q 12 0), .ref (q 22 i1), .int a2, .int a3, .int a4])).length) Slot.unset).toArray = ls at hl ⊢
  have hl : lv_has ls 8 [(0, .ref (q 12 0)), (1, .ref (q 22 i1)), (2, .int a2), (3, .int a3), (4, .int a4)] := hl
  have key : ∀ (H : Heap) (locs : List Loc), va_P D vwCl (cW cI cZ cP cF q S) H → va_S A s.heap H locs → W p l e (headSpec zw_zd_X7_guard ({ frames := 2, cells := 0, slots := 0, locals := 41 })).room s m ([.ref (q 12 0), .ref (q 22 i1), .int a2, .int a3, .int a4] : List Value).toArray below meth c H locs 0 0 (MQ below (va_Qv (fun S' => Post S') (fun (S' : CST) t => va_P D vwCl (cW cI cZ cP cF q S') t.heap ∧ va_D A (cW cI cZ cP cF q S') ∧ S'.2 = S.2) A) ([.ref (q 12 0), .ref (q 22 i1), .int a2, .int a3, .int a4] : List Value).toArray s 0 0 A) (F0 m 0 ls []) := by
    intro H locs hP hS
    refine lv_iload_n hx hb dX7_guard_0 rfl (lv_at hl 3 rfl) ?_
    refine lv_if_eq (tgt := 5) hx hb dX7_guard_1 (by decide) (fun c_1 => ?_) (fun c_1 => ?_)
    · have h := h.1 c_1
      refine lv_aload_n hx hb dX7_guard_5 rfl (lv_at hl 1 rfl) ?_
      have hi_2 := h.1
      have h := h.2
      obtain ⟨p_2, hp_2⟩ := cget_22 cI cZ cP cF q S hi_2
      by_cases hn_3 : (cv S 220 i1 0) < 0
      · have h := h.1 hn_3
        refine va_get (D := D) (ci := 4) (v := .null) (C := RX4) (T := TX4) (N := 5) hx hb hts (fun _ h => List.mem_cons_of_mem _ (List.mem_append_left _ (List.mem_append_left _ (List.mem_append_left _ (List.mem_append_left _ (List.mem_append_left _ (List.mem_append_right _ h))))))) hown hK hP p_2 hp_2 rfl 0 (by decide) (hts (.fieldLink RX7 84 "TemplateForge$Frame" "program" "LTemplateForge$Program;") (List.mem_of_getElem? (i := 1) rfl)) (fun _ h9 => h9) (congrArg some (cn_neg hn_3)) dX7_guard_6 ?_
        exact h.elim
      · have h := h.2 hn_3
        refine va_get (D := D) (ci := 4) (v := .ref (q 24 ((cv S 220 i1 0) : Int32).toNatClampNeg)) (C := RX4) (T := TX4) (N := 5) hx hb hts (fun _ h => List.mem_cons_of_mem _ (List.mem_append_left _ (List.mem_append_left _ (List.mem_append_left _ (List.mem_append_left _ (List.mem_append_left _ (List.mem_append_right _ h))))))) hown hK hP p_2 hp_2 rfl 0 (by decide) (hts (.fieldLink RX7 84 "TemplateForge$Frame" "program" "LTemplateForge$Program;") (List.mem_of_getElem? (i := 1) rfl)) (fun _ h9 => h9) (congrArg some (cn_pos hn_3)) dX7_guard_6 ?_
        have hi_4 := h.1
        have h := h.2
        obtain ⟨p_4, hp_4⟩ := cget_24 cI cZ cP cF q S hi_4
        refine va_get (D := D) (ci := 8) (v := .ref (q 28 (((cv S 220 i1 0) : Int32).toNatClampNeg))) (C := RX8) (T := TX8) (N := 10) hx hb hts (fun _ h => List.mem_cons_of_mem _ (List.mem_append_left _ (List.mem_append_left _ (List.mem_append_left _ (List.mem_append_left _ (List.mem_append_right _ h)))))) hown hK hP p_4 hp_4 rfl 3 (by decide) (hts (.fieldLink RX7 115 "TemplateForge$Program" "heat" "LTemplateForge$Heat;") (List.mem_of_getElem? (i := 2) rfl)) (fun _ h9 => h9) rfl dX7_guard_9 ?_
        refine lv_astore (lv' := [(5, .ref (q 28 (((cv S 220 i1 0) : Int32).toNatClampNeg))), (0, .ref (q 12 0)), (1, .ref (q 22 i1)), (2, .int a2), (3, .int a3), (4, .int a4)]) hx hb dX7_guard_12 hl (by decide) rfl (fun ls hl => ?_)
        refine lv_aload_n hx hb dX7_guard_14 rfl (lv_at hl 2 rfl) ?_
        have hi_5 := h.1
        have h := h.2
        obtain ⟨p_5, hp_5⟩ := cget_22 cI cZ cP cF q S hi_5
        by_cases hn_6 : (cv S 220 i1 0) < 0
        · have h := h.1 hn_6
          refine va_get (D := D) (ci := 4) (v := .null) (C := RX4) (T := TX4) (N := 5) hx hb hts (fun _ h => List.mem_cons_of_mem _ (List.mem_append_left _ (List.mem_append_left _ (List.mem_append_left _ (List.mem_append_left _ (List.mem_append_left _ (List.mem_append_right _ h))))))) hown hK hP p_5 hp_5 rfl 0 (by decide) (hts (.fieldLink RX7 84 "TemplateForge$Frame" "program" "LTemplateForge$Program;") (List.mem_of_getElem? (i := 1) rfl)) (fun _ h9 => h9) (congrArg some (cn_neg hn_6)) dX7_guard_15 ?_
          exact h.elim
        · have h := h.2 hn_6
          refine va_get (D := D) (ci := 4) (v := .ref (q 24 ((cv S 220 i1 0) : Int32).toNatClampNeg)) (C := RX4) (T := TX4) (N := 5) hx hb hts (fun _ h => List.mem_cons_of_mem _ (List.mem_append_left _ (List.mem_append_left _ (List.mem_append_left _ (List.mem_append_left _ (List.mem_append_left _ (List.mem_append_right _ h))))))) hown hK hP p_5 hp_5 rfl 0 (by decide) (hts (.fieldLink RX7 84 "TemplateForge$Frame" "program" "LTemplateForge$Program;") (List.mem_of_getElem? (i := 1) rfl)) (fun _ h9 => h9) (congrArg some (cn_pos hn_6)) dX7_guard_15 ?_
          have hi_7 := h.1
          have h := h.2
          obtain ⟨p_7, hp_7⟩ := cget_24 cI cZ cP cF q S hi_7
          by_cases hn_8 : (cv S 249 (((cv S 220 i1 0) : Int32).toNatClampNeg) 0) < 0
          · have h := h.1 hn_8
            refine va_get (D := D) (ci := 8) (v := .null) (C := RX8) (T := TX8) (N := 10) hx hb hts (fun _ h => List.mem_cons_of_mem _ (List.mem_append_left _ (List.mem_append_left _ (List.mem_append_left _ (List.mem_append_left _ (List.mem_append_right _ h)))))) hown hK hP p_7 hp_7 rfl 9 (by decide) (hts (.fieldLink RX7 88 "TemplateForge$Program" "plain" "LTemplateForge$Code;") (List.mem_of_getElem? (i := 3) rfl)) (fun _ h9 => h9) (congrArg some (cn_neg hn_8)) dX7_guard_18 ?_
            refine lv_astoreN (lv' := [(6, .null), (5, .ref (q 28 (((cv S 220 i1 0) : Int32).toNatClampNeg))), (0, .ref (q 12 0)), (1, .ref (q 22 i1)), (2, .int a2), (3, .int a3), (4, .int a4)]) hx hb dX7_guard_21 hl (by decide) rfl (fun ls hl => ?_)
            refine lv_aload_n hx hb dX7_guard_23 rfl (lv_at hl 2 rfl) ?_
            obtain ⟨p_9, hp_9⟩ := cget_12 cI cZ cP cF q S
            have hi_9 : cin S 12 0 := Or.inl ⟨by decide, rfl⟩
            refine va_get (D := D) (ci := 7) (v := .ref (q 20 0)) (C := RX7) (T := TX7) (N := 10) hx hb hts (fun _ h => List.mem_cons_of_mem _ (List.mem_append_left _ (List.mem_append_left _ (List.mem_append_left _ (List.mem_append_right _ h))))) hown hK hP p_9 hp_9 rfl 3 (by decide) (hts (.fieldLink RX7 12 "TemplateForge$Machine" "tally" "LTemplateForge$Tally;") (List.mem_of_getElem? (i := 4) rfl)) (fun _ h9 => h9) rfl dX7_guard_24 ?_
            refine lv_dup hx hb dX7_guard_27 rfl ?_
            obtain ⟨p_10, hp_10⟩ := cget_20 cI cZ cP cF q S
            have hi_10 : cin S 20 0 := Or.inl ⟨by decide, rfl⟩
            refine va_get (D := D) (ci := 10) (v := .int (cv S 204 0 0)) (C := RX10) (T := TX10) (N := 7) hx hb hts (fun _ h => List.mem_cons_of_mem _ (List.mem_append_left _ (List.mem_append_left _ (List.mem_append_right _ h)))) hown hK hP p_10 hp_10 rfl 4 (by decide) (hts (.fieldLink RX7 218 "TemplateForge$Tally" "failed" "I") (List.mem_of_getElem? (i := 5) rfl)) (fun _ h9 => h9) rfl dX7_guard_28 ?_
            refine lv_iconst (v := 1) hx hb dX7_guard_31 (by decide) ?_
            refine lv_iadd hx hb dX7_guard_32 ?_
            obtain ⟨p_11, hp_11⟩ := cget_20 cI cZ cP cF q S
            have hi_11 : cin S 20 0 := Or.inl ⟨by decide, rfl⟩
            have hD0_11 := hD
            refine va_put (D := D) (ci := 10) (v := .int ((cv S 204 0 0) + 1)) (ty := .int) (C := RX10) (T := TX10) (N := 7) hx hb hts (fun _ h => List.mem_cons_of_mem _ (List.mem_append_left _ (List.mem_append_left _ (List.mem_append_right _ h)))) tyX10 tyX10_ok nmX10 hown hK hP hD hS p_11 hp_11 rfl 4 (by decide) (hts (.fieldLink RX7 218 "TemplateForge$Tally" "failed" "I") (List.mem_of_getElem? (i := 5) rfl)) (fun _ h9 => h9) rfl (by decide +kernel) rfl rfl (Nat.le_of_ble_eq_true rfl) dX7_guard_33 (fun H locs hP hD hS => ?_)
            obtain ⟨S12, eS12⟩ : ∃ z, z = cs S 204 0 (fun _ => (cv S 204 0 0) + 1) := ⟨_, rfl⟩
            have hP : va_P D vwCl (cW cI cZ cP cF q S12) H := by rw [eS12, ← cW_put (k := 204) (κ := 20) (i := 0) (g := (fun _ => (cv S 204 0 0) + 1)) rfl hD0_11 hp_11 hi_11, cput_204]; exact hP
            have hD : va_D A (cW cI cZ cP cF q S12) := by rw [eS12, ← cW_put (k := 204) (κ := 20) (i := 0) (g := (fun _ => (cv S 204 0 0) + 1)) rfl hD0_11 hp_11 hi_11, cput_204]; exact hD
            have hN : S12.2 = S.2 := by rw [eS12]; exact hN
            have h := h S12 eS12
            refine lv_aload hx hb dX7_guard_36 (lv_at hl 1 rfl) ?_
            refine lv_dup hx hb dX7_guard_38 rfl ?_
            have hi_13 := h.1
            have h := h.2
            obtain ⟨p_13, hp_13⟩ := cget_28 cI cZ cP cF q S12 hi_13
            refine va_get (D := D) (ci := 5) (v := .int (cv S12 284 (((cv S 220 i1 0) : Int32).toNatClampNeg) 0)) (C := RX5) (T := TX5) (N := 9) hx hb hts (fun _ h => List.mem_cons_of_mem _ (List.mem_append_left _ (List.mem_append_right _ h))) hown hK hP p_13 hp_13 rfl 4 (by decide) (hts (.fieldLink RX7 221 "TemplateForge$Heat" "failed" "I") (List.mem_of_getElem? (i := 6) rfl)) (fun _ h9 => h9) rfl dX7_guard_39 ?_
            refine lv_iconst (v := 1) hx hb dX7_guard_42 (by decide) ?_
            refine lv_iadd hx hb dX7_guard_43 ?_
            have hi_14 := h.1
            have h := h.2
            obtain ⟨p_14, hp_14⟩ := cget_28 cI cZ cP cF q S12 hi_14
            have hD0_14 := hD
            refine va_put (D := D) (ci := 5) (v := .int ((cv S12 284 (((cv S 220 i1 0) : Int32).toNatClampNeg) 0) + 1)) (ty := .int) (C := RX5) (T := TX5) (N := 9) hx hb hts (fun _ h => List.mem_cons_of_mem _ (List.mem_append_left _ (List.mem_append_right _ h))) tyX5 tyX5_ok nmX5 hown hK hP hD hS p_14 hp_14 rfl 4 (by decide) (hts (.fieldLink RX7 221 "TemplateForge$Heat" "failed" "I") (List.mem_of_getElem? (i := 6) rfl)) (fun _ h9 => h9) rfl (by decide +kernel) rfl rfl (Nat.le_of_ble_eq_true rfl) dX7_guard_44 (fun H locs hP hD hS => ?_)
            obtain ⟨S15, eS15⟩ : ∃ z, z = cs S12 284 (((cv S 220 i1 0) : Int32).toNatClampNeg) (fun _ => (cv S12 284 (((cv S 220 i1 0) : Int32).toNatClampNeg) 0) + 1) := ⟨_, rfl⟩
            have hP : va_P D vwCl (cW cI cZ cP cF q S15) H := by rw [eS15, ← cW_put (k := 284) (κ := 28) (i := (((cv S 220 i1 0) : Int32).toNatClampNeg)) (g := (fun _ => (cv S12 284 (((cv S 220 i1 0) : Int32).toNatClampNeg) 0) + 1)) rfl hD0_14 hp_14 hi_14, cput_284]; exact hP
            have hD : va_D A (cW cI cZ cP cF q S15) := by rw [eS15, ← cW_put (k := 284) (κ := 28) (i := (((cv S 220 i1 0) : Int32).toNatClampNeg)) (g := (fun _ => (cv S12 284 (((cv S 220 i1 0) : Int32).toNatClampNeg) 0) + 1)) rfl hD0_14 hp_14 hi_14, cput_284]; exact hD
            have hN : S15.2 = S.2 := by rw [eS15]; exact hN
            have h := h S15 eS15
            refine lv_aload hx hb dX7_guard_47 (lv_at hl 1 rfl) ?_
            refine lv_iload_n hx hb dX7_guard_49 rfl (lv_at hl 4 rfl) ?_
            have hi_16 := h.1
            have h := h.2
            obtain ⟨p_16, hp_16⟩ := cget_28 cI cZ cP cF q S15 hi_16
            have hFc := zm_free hD hS hA
            refine va_callv (va_runV (As := [.int a2]) (rest := []) ⟨hx, hb, hml, hown, hts⟩ (zd_X5_markVarying l D cI cZ cP cF q S15 (((cv S 220 i1 0) : Int32).toNatClampNeg) a2 H.size _ h) (cwV 1 hts zg_zd_X7_guard_zd_X5_markVarying_222 rfl rfl rfl (by decide +kernel) ⟨Nat.le_of_ble_eq_true rfl, Nat.le_of_ble_eq_true rfl⟩) ⟨zCW, va_recv hK hP (ci := 5) (q0 := p_16) rfl hp_16, fun U hU hW => ⟨rfl, by rw [hU], by rw [hU]; exact hP, hE.warm hW, hD.weaken (fun _ _ _ _ => trivial)⟩⟩ rfl rfl hl.1 rfl (lv_room (Nat.le_of_ble_eq_true rfl)) dX7_guard_50 ⟨Nat.le_of_ble_eq_true rfl, Nat.le_of_ble_eq_true rfl⟩) hS (fun q _ h => hFc q h) hFc (fun S17 t H locs ht hvm h hB hz1 hk1 hS => ?_)
            obtain ⟨hP, hD1, hN1⟩ := hB
            rw [ht] at hP
            have hD := hD1.weaken (fun k q _ hq => hFc q.1 hq)
            have hN := hN1.trans hN
            refine lv_aload hx hb dX7_guard_53 (lv_at hl 1 rfl) ?_
            have hi_18 := h.1
            have h := h.2
            obtain ⟨p_18, hp_18⟩ := cget_28 cI cZ cP cF q S17 hi_18
            refine va_get (D := D) (ci := 5) (v := .int (cv S17 280 (((cv S 220 i1 0) : Int32).toNatClampNeg) 0)) (C := RX5) (T := TX5) (N := 9) hx hb hts (fun _ h => List.mem_cons_of_mem _ (List.mem_append_left _ (List.mem_append_right _ h))) hown hK hP p_18 hp_18 rfl 0 (by decide) (hts (.fieldLink RX7 133 "TemplateForge$Heat" "hasCode" "Z") (List.mem_of_getElem? (i := 13) rfl)) (fun _ h9 => h9) rfl dX7_guard_55 ?_
            refine lv_if_eq (tgt := 81) hx hb dX7_guard_58 (by decide) (fun c_19 => ?_) (fun c_19 => ?_)
            · have h := h.1 c_19
              refine lv_aload_n hx hb dX7_guard_81 rfl (lv_at hl 3 rfl) ?_
              have hi_20 := h.1
              have h := h.2
              obtain ⟨p_20, hp_20⟩ := cget_22 cI cZ cP cF q S17 hi_20
              refine va_get (D := D) (ci := 4) (v := .int (cv S17 222 i1 0)) (C := RX4) (T := TX4) (N := 5) hx hb hts (fun _ h => List.mem_cons_of_mem _ (List.mem_append_left _ (List.mem_append_left _ (List.mem_append_left _ (List.mem_append_left _ (List.mem_append_left _ (List.mem_append_right _ h))))))) hown hK hP p_20 hp_20 rfl 2 (by decide) (hts (.fieldLink RX7 97 "TemplateForge$Frame" "place" "I") (List.mem_of_getElem? (i := 14) rfl)) (fun _ h9 => h9) rfl dX7_guard_82 ?_
              refine lv_aload_n hx hb dX7_guard_85 rfl (lv_at hl 3 rfl) ?_
              have hi_21 := h.1
              have h := h.2
              obtain ⟨p_21, hp_21⟩ := cget_22 cI cZ cP cF q S17 hi_21
              by_cases hn_22 : (cv S17 221 i1 0) < 0
              · have h := h.1 hn_22
                refine va_get (D := D) (ci := 4) (v := .null) (C := RX4) (T := TX4) (N := 5) hx hb hts (fun _ h => List.mem_cons_of_mem _ (List.mem_append_left _ (List.mem_append_left _ (List.mem_append_left _ (List.mem_append_left _ (List.mem_append_left _ (List.mem_append_right _ h))))))) hown hK hP p_21 hp_21 rfl 1 (by decide) (hts (.fieldLink RX7 94 "TemplateForge$Frame" "code" "LTemplateForge$Code;") (List.mem_of_getElem? (i := 15) rfl)) (fun _ h9 => h9) (congrArg some (cn_neg hn_22)) dX7_guard_86 ?_
                exact h.elim
              · have h := h.2 hn_22
                refine va_get (D := D) (ci := 4) (v := .ref (q 32 ((cv S17 221 i1 0) : Int32).toNatClampNeg)) (C := RX4) (T := TX4) (N := 5) hx hb hts (fun _ h => List.mem_cons_of_mem _ (List.mem_append_left _ (List.mem_append_left _ (List.mem_append_left _ (List.mem_append_left _ (List.mem_append_left _ (List.mem_append_right _ h))))))) hown hK hP p_21 hp_21 rfl 1 (by decide) (hts (.fieldLink RX7 94 "TemplateForge$Frame" "code" "LTemplateForge$Code;") (List.mem_of_getElem? (i := 15) rfl)) (fun _ h9 => h9) (congrArg some (cn_pos hn_22)) dX7_guard_86 ?_
                have hi_23 := h.1
                have h := h.2
                obtain ⟨p_23, hp_23⟩ := cget_32 cI cZ cP cF q S17 hi_23
                refine va_get (D := D) (ci := 1) (v := .int (cv S17 321 (((cv S17 221 i1 0) : Int32).toNatClampNeg) 0)) (C := RX1) (T := TX1) (N := 4) hx hb hts (fun _ h => List.mem_cons_of_mem _ (List.mem_append_right _ h)) hown hK hP p_23 hp_23 rfl 1 (by decide) (hts (.fieldLink RX7 235 "TemplateForge$Code" "heads" "I") (List.mem_of_getElem? (i := 16) rfl)) (fun _ h9 => h9) rfl dX7_guard_89 ?_
                refine lv_icmp_gt (tgt := 99) hx hb dX7_guard_92 (by decide) (fun c_24 => ?_) (fun c_24 => ?_)
                · have h := h.1 c_24
                  refine lv_iconst (v := 0) hx hb dX7_guard_99 (by decide) ?_
                  refine lv_istore (lv' := [(7, .int 0), (6, .null), (5, .ref (q 28 (((cv S 220 i1 0) : Int32).toNatClampNeg))), (0, .ref (q 12 0)), (1, .ref (q 22 i1)), (2, .int a2), (3, .int a3), (4, .int a4)]) hx hb dX7_guard_100 hl (by decide) rfl (fun ls hl => ?_)
                  refine lv_aload_n hx hb dX7_guard_102 rfl (lv_at hl 4 rfl) ?_
                  refine lv_aloadN hx hb dX7_guard_103 (lv_at hl 1 rfl) ?_
                  have hi_25 := h.1
                  have h := h.2
                  obtain ⟨p_25, hp_25⟩ := cget_22 cI cZ cP cF q S17 hi_25
                  have hD0_25 := hD
                  refine va_put (D := D) (ci := 4) (v := .null) (ty := .object "TemplateForge$Code") (C := RX4) (T := TX4) (N := 5) hx hb hts (fun _ h => List.mem_cons_of_mem _ (List.mem_append_left _ (List.mem_append_left _ (List.mem_append_left _ (List.mem_append_left _ (List.mem_append_left _ (List.mem_append_right _ h))))))) tyX4 tyX4_ok nmX4 hown hK hP hD hS p_25 hp_25 rfl 1 (by decide) (hts (.fieldLink RX7 94 "TemplateForge$Frame" "code" "LTemplateForge$Code;") (List.mem_of_getElem? (i := 15) rfl)) (fun _ h9 => h9) rfl (by decide +kernel) rfl rfl (Nat.le_of_ble_eq_true rfl) dX7_guard_105 (fun H locs hP hD hS => ?_)
                  obtain ⟨S26, eS26⟩ : ∃ z, z = cs S17 221 i1 (fun _ => (-1)) := ⟨_, rfl⟩
                  have hP : va_P D vwCl (cW cI cZ cP cF q S26) H := by rw [eS26, ← cW_put (k := 221) (κ := 22) (i := i1) (g := (fun _ => (-1))) rfl hD0_25 hp_25 hi_25, cput_221, show cn q 32 (-1) = .null from cn_neg (by decide)]; exact hP
                  have hD : va_D A (cW cI cZ cP cF q S26) := by rw [eS26, ← cW_put (k := 221) (κ := 22) (i := i1) (g := (fun _ => (-1))) rfl hD0_25 hp_25 hi_25, cput_221, show cn q 32 (-1) = .null from cn_neg (by decide)]; exact hD
                  have hN : S26.2 = S.2 := by rw [eS26]; exact hN
                  have h := h S26 eS26
                  refine lv_aload_n hx hb dX7_guard_108 rfl (lv_at hl 4 rfl) ?_
                  refine lv_aloadN hx hb dX7_guard_109 (lv_at hl 1 rfl) ?_
                  refine lv_ifnullN (tgt := 119) hx hb dX7_guard_111 (by decide) ?_
                  refine lv_iconst (v := 0) hx hb dX7_guard_119 (by decide) ?_
                  refine lv_goto (tgt := 132) hx hb dX7_guard_120 (by decide) ?_
                  have hi_27 := h.1
                  have h := h.2
                  obtain ⟨p_27, hp_27⟩ := cget_22 cI cZ cP cF q S26 hi_27
                  have hD0_27 := hD
                  refine va_put (D := D) (ci := 4) (v := .int 0) (ty := .int) (C := RX4) (T := TX4) (N := 5) hx hb hts (fun _ h => List.mem_cons_of_mem _ (List.mem_append_left _ (List.mem_append_left _ (List.mem_append_left _ (List.mem_append_left _ (List.mem_append_left _ (List.mem_append_right _ h))))))) tyX4 tyX4_ok nmX4 hown hK hP hD hS p_27 hp_27 rfl 2 (by decide) (hts (.fieldLink RX7 97 "TemplateForge$Frame" "place" "I") (List.mem_of_getElem? (i := 14) rfl)) (fun _ h9 => h9) rfl (by decide +kernel) rfl rfl (Nat.le_of_ble_eq_true rfl) dX7_guard_132 (fun H locs hP hD hS => ?_)
                  obtain ⟨S28, eS28⟩ : ∃ z, z = cs S26 222 i1 (fun _ => 0) := ⟨_, rfl⟩
                  have hP : va_P D vwCl (cW cI cZ cP cF q S28) H := by rw [eS28, ← cW_put (k := 222) (κ := 22) (i := i1) (g := (fun _ => 0)) rfl hD0_27 hp_27 hi_27, cput_222]; exact hP
                  have hD : va_D A (cW cI cZ cP cF q S28) := by rw [eS28, ← cW_put (k := 222) (κ := 22) (i := i1) (g := (fun _ => 0)) rfl hD0_27 hp_27 hi_27, cput_222]; exact hD
                  have hN : S28.2 = S.2 := by rw [eS28]; exact hN
                  have h := h S28 eS28
                  exact W.vret hx hb hr (fun t ht hW => ⟨⟨S28, rfl, h, by rw [ht]; exact hP, hD, hN⟩, hS.F ht⟩) hS.2.2 dX7_guard_135
                · have h := h.2 c_24
                  refine lv_iconst (v := 1) hx hb dX7_guard_95 (by decide) ?_
                  refine lv_goto (tgt := 100) hx hb dX7_guard_96 (by decide) ?_
                  refine lv_istore (lv' := [(7, .int 1), (6, .null), (5, .ref (q 28 (((cv S 220 i1 0) : Int32).toNatClampNeg))), (0, .ref (q 12 0)), (1, .ref (q 22 i1)), (2, .int a2), (3, .int a3), (4, .int a4)]) hx hb dX7_guard_100 hl (by decide) rfl (fun ls hl => ?_)
                  refine lv_aload_n hx hb dX7_guard_102 rfl (lv_at hl 4 rfl) ?_
                  refine lv_aloadN hx hb dX7_guard_103 (lv_at hl 1 rfl) ?_
                  have hi_29 := h.1
                  have h := h.2
                  obtain ⟨p_29, hp_29⟩ := cget_22 cI cZ cP cF q S17 hi_29
                  have hD0_29 := hD
                  refine va_put (D := D) (ci := 4) (v := .null) (ty := .object "TemplateForge$Code") (C := RX4) (T := TX4) (N := 5) hx hb hts (fun _ h => List.mem_cons_of_mem _ (List.mem_append_left _ (List.mem_append_left _ (List.mem_append_left _ (List.mem_append_left _ (List.mem_append_left _ (List.mem_append_right _ h))))))) tyX4 tyX4_ok nmX4 hown hK hP hD hS p_29 hp_29 rfl 1 (by decide) (hts (.fieldLink RX7 94 "TemplateForge$Frame" "code" "LTemplateForge$Code;") (List.mem_of_getElem? (i := 15) rfl)) (fun _ h9 => h9) rfl (by decide +kernel) rfl rfl (Nat.le_of_ble_eq_true rfl) dX7_guard_105 (fun H locs hP hD hS => ?_)
                  obtain ⟨S30, eS30⟩ : ∃ z, z = cs S17 221 i1 (fun _ => (-1)) := ⟨_, rfl⟩
                  have hP : va_P D vwCl (cW cI cZ cP cF q S30) H := by rw [eS30, ← cW_put (k := 221) (κ := 22) (i := i1) (g := (fun _ => (-1))) rfl hD0_29 hp_29 hi_29, cput_221, show cn q 32 (-1) = .null from cn_neg (by decide)]; exact hP
                  have hD : va_D A (cW cI cZ cP cF q S30) := by rw [eS30, ← cW_put (k := 221) (κ := 22) (i := i1) (g := (fun _ => (-1))) rfl hD0_29 hp_29 hi_29, cput_221, show cn q 32 (-1) = .null from cn_neg (by decide)]; exact hD
                  have hN : S30.2 = S.2 := by rw [eS30]; exact hN
                  have h := h S30 eS30
                  refine lv_aload_n hx hb dX7_guard_108 rfl (lv_at hl 4 rfl) ?_
                  refine lv_aloadN hx hb dX7_guard_109 (lv_at hl 1 rfl) ?_
                  refine lv_ifnullN (tgt := 119) hx hb dX7_guard_111 (by decide) ?_
                  refine lv_iconst (v := 0) hx hb dX7_guard_119 (by decide) ?_
                  refine lv_goto (tgt := 132) hx hb dX7_guard_120 (by decide) ?_
                  have hi_31 := h.1
                  have h := h.2
                  obtain ⟨p_31, hp_31⟩ := cget_22 cI cZ cP cF q S30 hi_31
                  have hD0_31 := hD
                  refine va_put (D := D) (ci := 4) (v := .int 0) (ty := .int) (C := RX4) (T := TX4) (N := 5) hx hb hts (fun _ h => List.mem_cons_of_mem _ (List.mem_append_left _ (List.mem_append_left _ (List.mem_append_left _ (List.mem_append_left _ (List.mem_append_left _ (List.mem_append_right _ h))))))) tyX4 tyX4_ok nmX4 hown hK hP hD hS p_31 hp_31 rfl 2 (by decide) (hts (.fieldLink RX7 97 "TemplateForge$Frame" "place" "I") (List.mem_of_getElem? (i := 14) rfl)) (fun _ h9 => h9) rfl (by decide +kernel) rfl rfl (Nat.le_of_ble_eq_true rfl) dX7_guard_132 (fun H locs hP hD hS => ?_)
                  obtain ⟨S32, eS32⟩ : ∃ z, z = cs S30 222 i1 (fun _ => 0) := ⟨_, rfl⟩
                  have hP : va_P D vwCl (cW cI cZ cP cF q S32) H := by rw [eS32, ← cW_put (k := 222) (κ := 22) (i := i1) (g := (fun _ => 0)) rfl hD0_31 hp_31 hi_31, cput_222]; exact hP
                  have hD : va_D A (cW cI cZ cP cF q S32) := by rw [eS32, ← cW_put (k := 222) (κ := 22) (i := i1) (g := (fun _ => 0)) rfl hD0_31 hp_31 hi_31, cput_222]; exact hD
                  have hN : S32.2 = S.2 := by rw [eS32]; exact hN
                  have h := h S32 eS32
                  exact W.vret hx hb hr (fun t ht hW => ⟨⟨S32, rfl, h, by rw [ht]; exact hP, hD, hN⟩, hS.F ht⟩) hS.2.2 dX7_guard_135
            · have h := h.2 c_19
              refine lv_aload hx hb dX7_guard_61 (lv_at hl 1 rfl) ?_
              have hi_33 := h.1
              have h := h.2
              obtain ⟨p_33, hp_33⟩ := cget_28 cI cZ cP cF q S17 hi_33
              refine va_get (D := D) (ci := 5) (v := .int (cv S17 283 (((cv S 220 i1 0) : Int32).toNatClampNeg) 0)) (C := RX5) (T := TX5) (N := 9) hx hb hts (fun _ h => List.mem_cons_of_mem _ (List.mem_append_left _ (List.mem_append_right _ h))) hown hK hP p_33 hp_33 rfl 3 (by decide) (hts (.fieldLink RX7 226 "TemplateForge$Heat" "made" "I") (List.mem_of_getElem? (i := 17) rfl)) (fun _ h9 => h9) rfl dX7_guard_63 ?_
              refine lv_aload_n hx hb dX7_guard_66 rfl (lv_at hl 3 rfl) ?_
              have hi_34 := h.1
              have h := h.2
              obtain ⟨p_34, hp_34⟩ := cget_22 cI cZ cP cF q S17 hi_34
              by_cases hn_35 : (cv S17 221 i1 0) < 0
              · have h := h.1 hn_35
                refine va_get (D := D) (ci := 4) (v := .null) (C := RX4) (T := TX4) (N := 5) hx hb hts (fun _ h => List.mem_cons_of_mem _ (List.mem_append_left _ (List.mem_append_left _ (List.mem_append_left _ (List.mem_append_left _ (List.mem_append_left _ (List.mem_append_right _ h))))))) hown hK hP p_34 hp_34 rfl 1 (by decide) (hts (.fieldLink RX7 94 "TemplateForge$Frame" "code" "LTemplateForge$Code;") (List.mem_of_getElem? (i := 15) rfl)) (fun _ h9 => h9) (congrArg some (cn_neg hn_35)) dX7_guard_67 ?_
                exact h.elim
              · have h := h.2 hn_35
                refine va_get (D := D) (ci := 4) (v := .ref (q 32 ((cv S17 221 i1 0) : Int32).toNatClampNeg)) (C := RX4) (T := TX4) (N := 5) hx hb hts (fun _ h => List.mem_cons_of_mem _ (List.mem_append_left _ (List.mem_append_left _ (List.mem_append_left _ (List.mem_append_left _ (List.mem_append_left _ (List.mem_append_right _ h))))))) hown hK hP p_34 hp_34 rfl 1 (by decide) (hts (.fieldLink RX7 94 "TemplateForge$Frame" "code" "LTemplateForge$Code;") (List.mem_of_getElem? (i := 15) rfl)) (fun _ h9 => h9) (congrArg some (cn_pos hn_35)) dX7_guard_67 ?_
                have hi_36 := h.1
                have h := h.2
                obtain ⟨p_36, hp_36⟩ := cget_32 cI cZ cP cF q S17 hi_36
                refine va_get (D := D) (ci := 1) (v := .int (cv S17 320 (((cv S17 221 i1 0) : Int32).toNatClampNeg) 0)) (C := RX1) (T := TX1) (N := 4) hx hb hts (fun _ h => List.mem_cons_of_mem _ (List.mem_append_right _ h)) hown hK hP p_36 hp_36 rfl 0 (by decide) (hts (.fieldLink RX7 229 "TemplateForge$Code" "making" "I") (List.mem_of_getElem? (i := 18) rfl)) (fun _ h9 => h9) rfl dX7_guard_70 ?_
                refine lv_icmp_ne (tgt := 81) hx hb dX7_guard_73 (by decide) (fun c_37 => ?_) (fun c_37 => ?_)
                · have h := h.1 c_37
                  refine lv_aload_n hx hb dX7_guard_81 rfl (lv_at hl 3 rfl) ?_
                  have hi_38 := h.1
                  have h := h.2
                  obtain ⟨p_38, hp_38⟩ := cget_22 cI cZ cP cF q S17 hi_38
                  refine va_get (D := D) (ci := 4) (v := .int (cv S17 222 i1 0)) (C := RX4) (T := TX4) (N := 5) hx hb hts (fun _ h => List.mem_cons_of_mem _ (List.mem_append_left _ (List.mem_append_left _ (List.mem_append_left _ (List.mem_append_left _ (List.mem_append_left _ (List.mem_append_right _ h))))))) hown hK hP p_38 hp_38 rfl 2 (by decide) (hts (.fieldLink RX7 97 "TemplateForge$Frame" "place" "I") (List.mem_of_getElem? (i := 14) rfl)) (fun _ h9 => h9) rfl dX7_guard_82 ?_
                  refine lv_aload_n hx hb dX7_guard_85 rfl (lv_at hl 3 rfl) ?_
                  have hi_39 := h.1
                  have h := h.2
                  obtain ⟨p_39, hp_39⟩ := cget_22 cI cZ cP cF q S17 hi_39
                  by_cases hn_40 : (cv S17 221 i1 0) < 0
                  · have h := h.1 hn_40
                    refine va_get (D := D) (ci := 4) (v := .null) (C := RX4) (T := TX4) (N := 5) hx hb hts (fun _ h => List.mem_cons_of_mem _ (List.mem_append_left _ (List.mem_append_left _ (List.mem_append_left _ (List.mem_append_left _ (List.mem_append_left _ (List.mem_append_right _ h))))))) hown hK hP p_39 hp_39 rfl 1 (by decide) (hts (.fieldLink RX7 94 "TemplateForge$Frame" "code" "LTemplateForge$Code;") (List.mem_of_getElem? (i := 15) rfl)) (fun _ h9 => h9) (congrArg some (cn_neg hn_40)) dX7_guard_86 ?_
                    exact h.elim
                  · have h := h.2 hn_40
                    refine va_get (D := D) (ci := 4) (v := .ref (q 32 ((cv S17 221 i1 0) : Int32).toNatClampNeg)) (C := RX4) (T := TX4) (N := 5) hx hb hts (fun _ h => List.mem_cons_of_mem _ (List.mem_append_left _ (List.mem_append_left _ (List.mem_append_left _ (List.mem_append_left _ (List.mem_append_left _ (List.mem_append_right _ h))))))) hown hK hP p_39 hp_39 rfl 1 (by decide) (hts (.fieldLink RX7 94 "TemplateForge$Frame" "code" "LTemplateForge$Code;") (List.mem_of_getElem? (i := 15) rfl)) (fun _ h9 => h9) (congrArg some (cn_pos hn_40)) dX7_guard_86 ?_
                    have hi_41 := h.1
                    have h := h.2
                    obtain ⟨p_41, hp_41⟩ := cget_32 cI cZ cP cF q S17 hi_41
                    refine va_get (D := D) (ci := 1) (v := .int (cv S17 321 (((cv S17 221 i1 0) : Int32).toNatClampNeg) 0)) (C := RX1) (T := TX1) (N := 4) hx hb hts (fun _ h => List.mem_cons_of_mem _ (List.mem_append_right _ h)) hown hK hP p_41 hp_41 rfl 1 (by decide) (hts (.fieldLink RX7 235 "TemplateForge$Code" "heads" "I") (List.mem_of_getElem? (i := 16) rfl)) (fun _ h9 => h9) rfl dX7_guard_89 ?_
                    refine lv_icmp_gt (tgt := 99) hx hb dX7_guard_92 (by decide) (fun c_42 => ?_) (fun c_42 => ?_)
                    · have h := h.1 c_42
                      refine lv_iconst (v := 0) hx hb dX7_guard_99 (by decide) ?_
                      refine lv_istore (lv' := [(7, .int 0), (6, .null), (5, .ref (q 28 (((cv S 220 i1 0) : Int32).toNatClampNeg))), (0, .ref (q 12 0)), (1, .ref (q 22 i1)), (2, .int a2), (3, .int a3), (4, .int a4)]) hx hb dX7_guard_100 hl (by decide) rfl (fun ls hl => ?_)
                      refine lv_aload_n hx hb dX7_guard_102 rfl (lv_at hl 4 rfl) ?_
                      refine lv_aloadN hx hb dX7_guard_103 (lv_at hl 1 rfl) ?_
                      have hi_43 := h.1
                      have h := h.2
                      obtain ⟨p_43, hp_43⟩ := cget_22 cI cZ cP cF q S17 hi_43
                      have hD0_43 := hD
                      refine va_put (D := D) (ci := 4) (v := .null) (ty := .object "TemplateForge$Code") (C := RX4) (T := TX4) (N := 5) hx hb hts (fun _ h => List.mem_cons_of_mem _ (List.mem_append_left _ (List.mem_append_left _ (List.mem_append_left _ (List.mem_append_left _ (List.mem_append_left _ (List.mem_append_right _ h))))))) tyX4 tyX4_ok nmX4 hown hK hP hD hS p_43 hp_43 rfl 1 (by decide) (hts (.fieldLink RX7 94 "TemplateForge$Frame" "code" "LTemplateForge$Code;") (List.mem_of_getElem? (i := 15) rfl)) (fun _ h9 => h9) rfl (by decide +kernel) rfl rfl (Nat.le_of_ble_eq_true rfl) dX7_guard_105 (fun H locs hP hD hS => ?_)
                      obtain ⟨S44, eS44⟩ : ∃ z, z = cs S17 221 i1 (fun _ => (-1)) := ⟨_, rfl⟩
                      have hP : va_P D vwCl (cW cI cZ cP cF q S44) H := by rw [eS44, ← cW_put (k := 221) (κ := 22) (i := i1) (g := (fun _ => (-1))) rfl hD0_43 hp_43 hi_43, cput_221, show cn q 32 (-1) = .null from cn_neg (by decide)]; exact hP
                      have hD : va_D A (cW cI cZ cP cF q S44) := by rw [eS44, ← cW_put (k := 221) (κ := 22) (i := i1) (g := (fun _ => (-1))) rfl hD0_43 hp_43 hi_43, cput_221, show cn q 32 (-1) = .null from cn_neg (by decide)]; exact hD
                      have hN : S44.2 = S.2 := by rw [eS44]; exact hN
                      have h := h S44 eS44
                      refine lv_aload_n hx hb dX7_guard_108 rfl (lv_at hl 4 rfl) ?_
                      refine lv_aloadN hx hb dX7_guard_109 (lv_at hl 1 rfl) ?_
                      refine lv_ifnullN (tgt := 119) hx hb dX7_guard_111 (by decide) ?_
                      refine lv_iconst (v := 0) hx hb dX7_guard_119 (by decide) ?_
                      refine lv_goto (tgt := 132) hx hb dX7_guard_120 (by decide) ?_
                      have hi_45 := h.1
                      have h := h.2
                      obtain ⟨p_45, hp_45⟩ := cget_22 cI cZ cP cF q S44 hi_45
                      have hD0_45 := hD
                      refine va_put (D := D) (ci := 4) (v := .int 0) (ty := .int) (C := RX4) (T := TX4) (N := 5) hx hb hts (fun _ h => List.mem_cons_of_mem _ (List.mem_append_left _ (List.mem_append_left _ (List.mem_append_left _ (List.mem_append_left _ (List.mem_append_left _ (List.mem_append_right _ h))))))) tyX4 tyX4_ok nmX4 hown hK hP hD hS p_45 hp_45 rfl 2 (by decide) (hts (.fieldLink RX7 97 "TemplateForge$Frame" "place" "I") (List.mem_of_getElem? (i := 14) rfl)) (fun _ h9 => h9) rfl (by decide +kernel) rfl rfl (Nat.le_of_ble_eq_true rfl) dX7_guard_132 (fun H locs hP hD hS => ?_)
                      obtain ⟨S46, eS46⟩ : ∃ z, z = cs S44 222 i1 (fun _ => 0) := ⟨_, rfl⟩
                      have hP : va_P D vwCl (cW cI cZ cP cF q S46) H := by rw [eS46, ← cW_put (k := 222) (κ := 22) (i := i1) (g := (fun _ => 0)) rfl hD0_45 hp_45 hi_45, cput_222]; exact hP
                      have hD : va_D A (cW cI cZ cP cF q S46) := by rw [eS46, ← cW_put (k := 222) (κ := 22) (i := i1) (g := (fun _ => 0)) rfl hD0_45 hp_45 hi_45, cput_222]; exact hD
                      have hN : S46.2 = S.2 := by rw [eS46]; exact hN
                      have h := h S46 eS46
                      exact W.vret hx hb hr (fun t ht hW => ⟨⟨S46, rfl, h, by rw [ht]; exact hP, hD, hN⟩, hS.F ht⟩) hS.2.2 dX7_guard_135
                    · have h := h.2 c_42
                      refine lv_iconst (v := 1) hx hb dX7_guard_95 (by decide) ?_
                      refine lv_goto (tgt := 100) hx hb dX7_guard_96 (by decide) ?_
                      refine lv_istore (lv' := [(7, .int 1), (6, .null), (5, .ref (q 28 (((cv S 220 i1 0) : Int32).toNatClampNeg))), (0, .ref (q 12 0)), (1, .ref (q 22 i1)), (2, .int a2), (3, .int a3), (4, .int a4)]) hx hb dX7_guard_100 hl (by decide) rfl (fun ls hl => ?_)
                      refine lv_aload_n hx hb dX7_guard_102 rfl (lv_at hl 4 rfl) ?_
                      refine lv_aloadN hx hb dX7_guard_103 (lv_at hl 1 rfl) ?_
                      have hi_47 := h.1
                      have h := h.2
                      obtain ⟨p_47, hp_47⟩ := cget_22 cI cZ cP cF q S17 hi_47
                      have hD0_47 := hD
                      refine va_put (D := D) (ci := 4) (v := .null) (ty := .object "TemplateForge$Code") (C := RX4) (T := TX4) (N := 5) hx hb hts (fun _ h => List.mem_cons_of_mem _ (List.mem_append_left _ (List.mem_append_left _ (List.mem_append_left _ (List.mem_append_left _ (List.mem_append_left _ (List.mem_append_right _ h))))))) tyX4 tyX4_ok nmX4 hown hK hP hD hS p_47 hp_47 rfl 1 (by decide) (hts (.fieldLink RX7 94 "TemplateForge$Frame" "code" "LTemplateForge$Code;") (List.mem_of_getElem? (i := 15) rfl)) (fun _ h9 => h9) rfl (by decide +kernel) rfl rfl (Nat.le_of_ble_eq_true rfl) dX7_guard_105 (fun H locs hP hD hS => ?_)
                      obtain ⟨S48, eS48⟩ : ∃ z, z = cs S17 221 i1 (fun _ => (-1)) := ⟨_, rfl⟩
                      have hP : va_P D vwCl (cW cI cZ cP cF q S48) H := by rw [eS48, ← cW_put (k := 221) (κ := 22) (i := i1) (g := (fun _ => (-1))) rfl hD0_47 hp_47 hi_47, cput_221, show cn q 32 (-1) = .null from cn_neg (by decide)]; exact hP
                      have hD : va_D A (cW cI cZ cP cF q S48) := by rw [eS48, ← cW_put (k := 221) (κ := 22) (i := i1) (g := (fun _ => (-1))) rfl hD0_47 hp_47 hi_47, cput_221, show cn q 32 (-1) = .null from cn_neg (by decide)]; exact hD
                      have hN : S48.2 = S.2 := by rw [eS48]; exact hN
                      have h := h S48 eS48
                      refine lv_aload_n hx hb dX7_guard_108 rfl (lv_at hl 4 rfl) ?_
                      refine lv_aloadN hx hb dX7_guard_109 (lv_at hl 1 rfl) ?_
                      refine lv_ifnullN (tgt := 119) hx hb dX7_guard_111 (by decide) ?_
                      refine lv_iconst (v := 0) hx hb dX7_guard_119 (by decide) ?_
                      refine lv_goto (tgt := 132) hx hb dX7_guard_120 (by decide) ?_
                      have hi_49 := h.1
                      have h := h.2
                      obtain ⟨p_49, hp_49⟩ := cget_22 cI cZ cP cF q S48 hi_49
                      have hD0_49 := hD
                      refine va_put (D := D) (ci := 4) (v := .int 0) (ty := .int) (C := RX4) (T := TX4) (N := 5) hx hb hts (fun _ h => List.mem_cons_of_mem _ (List.mem_append_left _ (List.mem_append_left _ (List.mem_append_left _ (List.mem_append_left _ (List.mem_append_left _ (List.mem_append_right _ h))))))) tyX4 tyX4_ok nmX4 hown hK hP hD hS p_49 hp_49 rfl 2 (by decide) (hts (.fieldLink RX7 97 "TemplateForge$Frame" "place" "I") (List.mem_of_getElem? (i := 14) rfl)) (fun _ h9 => h9) rfl (by decide +kernel) rfl rfl (Nat.le_of_ble_eq_true rfl) dX7_guard_132 (fun H locs hP hD hS => ?_)
                      obtain ⟨S50, eS50⟩ : ∃ z, z = cs S48 222 i1 (fun _ => 0) := ⟨_, rfl⟩
                      have hP : va_P D vwCl (cW cI cZ cP cF q S50) H := by rw [eS50, ← cW_put (k := 222) (κ := 22) (i := i1) (g := (fun _ => 0)) rfl hD0_49 hp_49 hi_49, cput_222]; exact hP
                      have hD : va_D A (cW cI cZ cP cF q S50) := by rw [eS50, ← cW_put (k := 222) (κ := 22) (i := i1) (g := (fun _ => 0)) rfl hD0_49 hp_49 hi_49, cput_222]; exact hD
                      have hN : S50.2 = S.2 := by rw [eS50]; exact hN
                      have h := h S50 eS50
                      exact W.vret hx hb hr (fun t ht hW => ⟨⟨S50, rfl, h, by rw [ht]; exact hP, hD, hN⟩, hS.F ht⟩) hS.2.2 dX7_guard_135
                · have h := h.2 c_37
                  refine lv_aload hx hb dX7_guard_76 (lv_at hl 1 rfl) ?_
                  have hi_51 := h.1
                  have h := h.2
                  obtain ⟨p_51, hp_51⟩ := cget_28 cI cZ cP cF q S17 hi_51
                  have hFc := zm_free hD hS hA
                  refine va_callv (va_runV (As := []) (rest := []) ⟨hx, hb, hml, hown, hts⟩ (zd_X5_throwAway l D cI cZ cP cF q S17 (((cv S 220 i1 0) : Int32).toNatClampNeg) H.size _ h) (cwV 0 hts zg_zd_X7_guard_zd_X5_throwAway_232 rfl rfl rfl (by decide +kernel) ⟨Nat.le_of_ble_eq_true rfl, Nat.le_of_ble_eq_true rfl⟩) ⟨zCW, va_recv hK hP (ci := 5) (q0 := p_51) rfl hp_51, fun U hU hW => ⟨rfl, by rw [hU], by rw [hU]; exact hP, hE.warm hW, hD.weaken (fun _ _ _ _ => trivial)⟩⟩ rfl rfl hl.1 rfl (lv_room (Nat.le_of_ble_eq_true rfl)) dX7_guard_78 ⟨Nat.le_of_ble_eq_true rfl, Nat.le_of_ble_eq_true rfl⟩) hS (fun q _ h => hFc q h) hFc (fun S52 t H locs ht hvm h hB hz1 hk1 hS => ?_)
                  obtain ⟨hP, hD1, hN1⟩ := hB
                  rw [ht] at hP
                  have hD := hD1.weaken (fun k q _ hq => hFc q.1 hq)
                  have hN := hN1.trans hN
                  refine lv_aload_n hx hb dX7_guard_81 rfl (lv_at hl 3 rfl) ?_
                  have hi_53 := h.1
                  have h := h.2
                  obtain ⟨p_53, hp_53⟩ := cget_22 cI cZ cP cF q S52 hi_53
                  refine va_get (D := D) (ci := 4) (v := .int (cv S52 222 i1 0)) (C := RX4) (T := TX4) (N := 5) hx hb hts (fun _ h => List.mem_cons_of_mem _ (List.mem_append_left _ (List.mem_append_left _ (List.mem_append_left _ (List.mem_append_left _ (List.mem_append_left _ (List.mem_append_right _ h))))))) hown hK hP p_53 hp_53 rfl 2 (by decide) (hts (.fieldLink RX7 97 "TemplateForge$Frame" "place" "I") (List.mem_of_getElem? (i := 14) rfl)) (fun _ h9 => h9) rfl dX7_guard_82 ?_
                  refine lv_aload_n hx hb dX7_guard_85 rfl (lv_at hl 3 rfl) ?_
                  have hi_54 := h.1
                  have h := h.2
                  obtain ⟨p_54, hp_54⟩ := cget_22 cI cZ cP cF q S52 hi_54
                  by_cases hn_55 : (cv S52 221 i1 0) < 0
                  · have h := h.1 hn_55
                    refine va_get (D := D) (ci := 4) (v := .null) (C := RX4) (T := TX4) (N := 5) hx hb hts (fun _ h => List.mem_cons_of_mem _ (List.mem_append_left _ (List.mem_append_left _ (List.mem_append_left _ (List.mem_append_left _ (List.mem_append_left _ (List.mem_append_right _ h))))))) hown hK hP p_54 hp_54 rfl 1 (by decide) (hts (.fieldLink RX7 94 "TemplateForge$Frame" "code" "LTemplateForge$Code;") (List.mem_of_getElem? (i := 15) rfl)) (fun _ h9 => h9) (congrArg some (cn_neg hn_55)) dX7_guard_86 ?_
                    exact h.elim
                  · have h := h.2 hn_55
                    refine va_get (D := D) (ci := 4) (v := .ref (q 32 ((cv S52 221 i1 0) : Int32).toNatClampNeg)) (C := RX4) (T := TX4) (N := 5) hx hb hts (fun _ h => List.mem_cons_of_mem _ (List.mem_append_left _ (List.mem_append_left _ (List.mem_append_left _ (List.mem_append_left _ (List.mem_append_left _ (List.mem_append_right _ h))))))) hown hK hP p_54 hp_54 rfl 1 (by decide) (hts (.fieldLink RX7 94 "TemplateForge$Frame" "code" "LTemplateForge$Code;") (List.mem_of_getElem? (i := 15) rfl)) (fun _ h9 => h9) (congrArg some (cn_pos hn_55)) dX7_guard_86 ?_
                    have hi_56 := h.1
                    have h := h.2
                    obtain ⟨p_56, hp_56⟩ := cget_32 cI cZ cP cF q S52 hi_56
                    refine va_get (D := D) (ci := 1) (v := .int (cv S52 321 (((cv S52 221 i1 0) : Int32).toNatClampNeg) 0)) (C := RX1) (T := TX1) (N := 4) hx hb hts (fun _ h => List.mem_cons_of_mem _ (List.mem_append_right _ h)) hown hK hP p_56 hp_56 rfl 1 (by decide) (hts (.fieldLink RX7 235 "TemplateForge$Code" "heads" "I") (List.mem_of_getElem? (i := 16) rfl)) (fun _ h9 => h9) rfl dX7_guard_89 ?_
                    refine lv_icmp_gt (tgt := 99) hx hb dX7_guard_92 (by decide) (fun c_57 => ?_) (fun c_57 => ?_)
                    · have h := h.1 c_57
                      refine lv_iconst (v := 0) hx hb dX7_guard_99 (by decide) ?_
                      refine lv_istore (lv' := [(7, .int 0), (6, .null), (5, .ref (q 28 (((cv S 220 i1 0) : Int32).toNatClampNeg))), (0, .ref (q 12 0)), (1, .ref (q 22 i1)), (2, .int a2), (3, .int a3), (4, .int a4)]) hx hb dX7_guard_100 hl (by decide) rfl (fun ls hl => ?_)
                      refine lv_aload_n hx hb dX7_guard_102 rfl (lv_at hl 4 rfl) ?_
                      refine lv_aloadN hx hb dX7_guard_103 (lv_at hl 1 rfl) ?_
                      have hi_58 := h.1
                      have h := h.2
                      obtain ⟨p_58, hp_58⟩ := cget_22 cI cZ cP cF q S52 hi_58
                      have hD0_58 := hD
                      refine va_put (D := D) (ci := 4) (v := .null) (ty := .object "TemplateForge$Code") (C := RX4) (T := TX4) (N := 5) hx hb hts (fun _ h => List.mem_cons_of_mem _ (List.mem_append_left _ (List.mem_append_left _ (List.mem_append_left _ (List.mem_append_left _ (List.mem_append_left _ (List.mem_append_right _ h))))))) tyX4 tyX4_ok nmX4 hown hK hP hD hS p_58 hp_58 rfl 1 (by decide) (hts (.fieldLink RX7 94 "TemplateForge$Frame" "code" "LTemplateForge$Code;") (List.mem_of_getElem? (i := 15) rfl)) (fun _ h9 => h9) rfl (by decide +kernel) rfl rfl (Nat.le_of_ble_eq_true rfl) dX7_guard_105 (fun H locs hP hD hS => ?_)
                      obtain ⟨S59, eS59⟩ : ∃ z, z = cs S52 221 i1 (fun _ => (-1)) := ⟨_, rfl⟩
                      have hP : va_P D vwCl (cW cI cZ cP cF q S59) H := by rw [eS59, ← cW_put (k := 221) (κ := 22) (i := i1) (g := (fun _ => (-1))) rfl hD0_58 hp_58 hi_58, cput_221, show cn q 32 (-1) = .null from cn_neg (by decide)]; exact hP
                      have hD : va_D A (cW cI cZ cP cF q S59) := by rw [eS59, ← cW_put (k := 221) (κ := 22) (i := i1) (g := (fun _ => (-1))) rfl hD0_58 hp_58 hi_58, cput_221, show cn q 32 (-1) = .null from cn_neg (by decide)]; exact hD
                      have hN : S59.2 = S.2 := by rw [eS59]; exact hN
                      have h := h S59 eS59
                      refine lv_aload_n hx hb dX7_guard_108 rfl (lv_at hl 4 rfl) ?_
                      refine lv_aloadN hx hb dX7_guard_109 (lv_at hl 1 rfl) ?_
                      refine lv_ifnullN (tgt := 119) hx hb dX7_guard_111 (by decide) ?_
                      refine lv_iconst (v := 0) hx hb dX7_guard_119 (by decide) ?_
                      refine lv_goto (tgt := 132) hx hb dX7_guard_120 (by decide) ?_
                      have hi_60 := h.1
                      have h := h.2
                      obtain ⟨p_60, hp_60⟩ := cget_22 cI cZ cP cF q S59 hi_60
                      have hD0_60 := hD
                      refine va_put (D := D) (ci := 4) (v := .int 0) (ty := .int) (C := RX4) (T := TX4) (N := 5) hx hb hts (fun _ h => List.mem_cons_of_mem _ (List.mem_append_left _ (List.mem_append_left _ (List.mem_append_left _ (List.mem_append_left _ (List.mem_append_left _ (List.mem_append_right _ h))))))) tyX4 tyX4_ok nmX4 hown hK hP hD hS p_60 hp_60 rfl 2 (by decide) (hts (.fieldLink RX7 97 "TemplateForge$Frame" "place" "I") (List.mem_of_getElem? (i := 14) rfl)) (fun _ h9 => h9) rfl (by decide +kernel) rfl rfl (Nat.le_of_ble_eq_true rfl) dX7_guard_132 (fun H locs hP hD hS => ?_)
                      obtain ⟨S61, eS61⟩ : ∃ z, z = cs S59 222 i1 (fun _ => 0) := ⟨_, rfl⟩
                      have hP : va_P D vwCl (cW cI cZ cP cF q S61) H := by rw [eS61, ← cW_put (k := 222) (κ := 22) (i := i1) (g := (fun _ => 0)) rfl hD0_60 hp_60 hi_60, cput_222]; exact hP
                      have hD : va_D A (cW cI cZ cP cF q S61) := by rw [eS61, ← cW_put (k := 222) (κ := 22) (i := i1) (g := (fun _ => 0)) rfl hD0_60 hp_60 hi_60, cput_222]; exact hD
                      have hN : S61.2 = S.2 := by rw [eS61]; exact hN
                      have h := h S61 eS61
                      exact W.vret hx hb hr (fun t ht hW => ⟨⟨S61, rfl, h, by rw [ht]; exact hP, hD, hN⟩, hS.F ht⟩) hS.2.2 dX7_guard_135
                    · have h := h.2 c_57
                      refine lv_iconst (v := 1) hx hb dX7_guard_95 (by decide) ?_
                      refine lv_goto (tgt := 100) hx hb dX7_guard_96 (by decide) ?_
                      refine lv_istore (lv' := [(7, .int 1), (6, .null), (5, .ref (q 28 (((cv S 220 i1 0) : Int32).toNatClampNeg))), (0, .ref (q 12 0)), (1, .ref (q 22 i1)), (2, .int a2), (3, .int a3), (4, .int a4)]) hx hb dX7_guard_100 hl (by decide) rfl (fun ls hl => ?_)
                      refine lv_aload_n hx hb dX7_guard_102 rfl (lv_at hl 4 rfl) ?_
                      refine lv_aloadN hx hb dX7_guard_103 (lv_at hl 1 rfl) ?_
                      have hi_62 := h.1
                      have h := h.2
                      obtain ⟨p_62, hp_62⟩ := cget_22 cI cZ cP cF q S52 hi_62
                      have hD0_62 := hD
                      refine va_put (D := D) (ci := 4) (v := .null) (ty := .object "TemplateForge$Code") (C := RX4) (T := TX4) (N := 5) hx hb hts (fun _ h => List.mem_cons_of_mem _ (List.mem_append_left _ (List.mem_append_left _ (List.mem_append_left _ (List.mem_append_left _ (List.mem_append_left _ (List.mem_append_right _ h))))))) tyX4 tyX4_ok nmX4 hown hK hP hD hS p_62 hp_62 rfl 1 (by decide) (hts (.fieldLink RX7 94 "TemplateForge$Frame" "code" "LTemplateForge$Code;") (List.mem_of_getElem? (i := 15) rfl)) (fun _ h9 => h9) rfl (by decide +kernel) rfl rfl (Nat.le_of_ble_eq_true rfl) dX7_guard_105 (fun H locs hP hD hS => ?_)
                      obtain ⟨S63, eS63⟩ : ∃ z, z = cs S52 221 i1 (fun _ => (-1)) := ⟨_, rfl⟩
                      have hP : va_P D vwCl (cW cI cZ cP cF q S63) H := by rw [eS63, ← cW_put (k := 221) (κ := 22) (i := i1) (g := (fun _ => (-1))) rfl hD0_62 hp_62 hi_62, cput_221, show cn q 32 (-1) = .null from cn_neg (by decide)]; exact hP
                      have hD : va_D A (cW cI cZ cP cF q S63) := by rw [eS63, ← cW_put (k := 221) (κ := 22) (i := i1) (g := (fun _ => (-1))) rfl hD0_62 hp_62 hi_62, cput_221, show cn q 32 (-1) = .null from cn_neg (by decide)]; exact hD
                      have hN : S63.2 = S.2 := by rw [eS63]; exact hN
                      have h := h S63 eS63
                      refine lv_aload_n hx hb dX7_guard_108 rfl (lv_at hl 4 rfl) ?_
                      refine lv_aloadN hx hb dX7_guard_109 (lv_at hl 1 rfl) ?_
                      refine lv_ifnullN (tgt := 119) hx hb dX7_guard_111 (by decide) ?_
                      refine lv_iconst (v := 0) hx hb dX7_guard_119 (by decide) ?_
                      refine lv_goto (tgt := 132) hx hb dX7_guard_120 (by decide) ?_
                      have hi_64 := h.1
                      have h := h.2
                      obtain ⟨p_64, hp_64⟩ := cget_22 cI cZ cP cF q S63 hi_64
                      have hD0_64 := hD
                      refine va_put (D := D) (ci := 4) (v := .int 0) (ty := .int) (C := RX4) (T := TX4) (N := 5) hx hb hts (fun _ h => List.mem_cons_of_mem _ (List.mem_append_left _ (List.mem_append_left _ (List.mem_append_left _ (List.mem_append_left _ (List.mem_append_left _ (List.mem_append_right _ h))))))) tyX4 tyX4_ok nmX4 hown hK hP hD hS p_64 hp_64 rfl 2 (by decide) (hts (.fieldLink RX7 97 "TemplateForge$Frame" "place" "I") (List.mem_of_getElem? (i := 14) rfl)) (fun _ h9 => h9) rfl (by decide +kernel) rfl rfl (Nat.le_of_ble_eq_true rfl) dX7_guard_132 (fun H locs hP hD hS => ?_)
                      obtain ⟨S65, eS65⟩ : ∃ z, z = cs S63 222 i1 (fun _ => 0) := ⟨_, rfl⟩
                      have hP : va_P D vwCl (cW cI cZ cP cF q S65) H := by rw [eS65, ← cW_put (k := 222) (κ := 22) (i := i1) (g := (fun _ => 0)) rfl hD0_64 hp_64 hi_64, cput_222]; exact hP
                      have hD : va_D A (cW cI cZ cP cF q S65) := by rw [eS65, ← cW_put (k := 222) (κ := 22) (i := i1) (g := (fun _ => 0)) rfl hD0_64 hp_64 hi_64, cput_222]; exact hD
                      have hN : S65.2 = S.2 := by rw [eS65]; exact hN
                      have h := h S65 eS65
                      exact W.vret hx hb hr (fun t ht hW => ⟨⟨S65, rfl, h, by rw [ht]; exact hP, hD, hN⟩, hS.F ht⟩) hS.2.2 dX7_guard_135
          · have h := h.2 hn_8
            refine va_get (D := D) (ci := 8) (v := .ref (q 32 ((cv S 249 (((cv S 220 i1 0) : Int32).toNatClampNeg) 0) : Int32).toNatClampNeg)) (C := RX8) (T := TX8) (N := 10) hx hb hts (fun _ h => List.mem_cons_of_mem _ (List.mem_append_left _ (List.mem_append_left _ (List.mem_append_left _ (List.mem_append_left _ (List.mem_append_right _ h)))))) hown hK hP p_7 hp_7 rfl 9 (by decide) (hts (.fieldLink RX7 88 "TemplateForge$Program" "plain" "LTemplateForge$Code;") (List.mem_of_getElem? (i := 3) rfl)) (fun _ h9 => h9) (congrArg some (cn_pos hn_8)) dX7_guard_18 ?_
            refine lv_astore (lv' := [(6, .ref (q 32 (((cv S 249 (((cv S 220 i1 0) : Int32).toNatClampNeg) 0) : Int32).toNatClampNeg))), (5, .ref (q 28 (((cv S 220 i1 0) : Int32).toNatClampNeg))), (0, .ref (q 12 0)), (1, .ref (q 22 i1)), (2, .int a2), (3, .int a3), (4, .int a4)]) hx hb dX7_guard_21 hl (by decide) rfl (fun ls hl => ?_)
            refine lv_aload_n hx hb dX7_guard_23 rfl (lv_at hl 2 rfl) ?_
            obtain ⟨p_66, hp_66⟩ := cget_12 cI cZ cP cF q S
            have hi_66 : cin S 12 0 := Or.inl ⟨by decide, rfl⟩
            refine va_get (D := D) (ci := 7) (v := .ref (q 20 0)) (C := RX7) (T := TX7) (N := 10) hx hb hts (fun _ h => List.mem_cons_of_mem _ (List.mem_append_left _ (List.mem_append_left _ (List.mem_append_left _ (List.mem_append_right _ h))))) hown hK hP p_66 hp_66 rfl 3 (by decide) (hts (.fieldLink RX7 12 "TemplateForge$Machine" "tally" "LTemplateForge$Tally;") (List.mem_of_getElem? (i := 4) rfl)) (fun _ h9 => h9) rfl dX7_guard_24 ?_
            refine lv_dup hx hb dX7_guard_27 rfl ?_
            obtain ⟨p_67, hp_67⟩ := cget_20 cI cZ cP cF q S
            have hi_67 : cin S 20 0 := Or.inl ⟨by decide, rfl⟩
            refine va_get (D := D) (ci := 10) (v := .int (cv S 204 0 0)) (C := RX10) (T := TX10) (N := 7) hx hb hts (fun _ h => List.mem_cons_of_mem _ (List.mem_append_left _ (List.mem_append_left _ (List.mem_append_right _ h)))) hown hK hP p_67 hp_67 rfl 4 (by decide) (hts (.fieldLink RX7 218 "TemplateForge$Tally" "failed" "I") (List.mem_of_getElem? (i := 5) rfl)) (fun _ h9 => h9) rfl dX7_guard_28 ?_
            refine lv_iconst (v := 1) hx hb dX7_guard_31 (by decide) ?_
            refine lv_iadd hx hb dX7_guard_32 ?_
            obtain ⟨p_68, hp_68⟩ := cget_20 cI cZ cP cF q S
            have hi_68 : cin S 20 0 := Or.inl ⟨by decide, rfl⟩
            have hD0_68 := hD
            refine va_put (D := D) (ci := 10) (v := .int ((cv S 204 0 0) + 1)) (ty := .int) (C := RX10) (T := TX10) (N := 7) hx hb hts (fun _ h => List.mem_cons_of_mem _ (List.mem_append_left _ (List.mem_append_left _ (List.mem_append_right _ h)))) tyX10 tyX10_ok nmX10 hown hK hP hD hS p_68 hp_68 rfl 4 (by decide) (hts (.fieldLink RX7 218 "TemplateForge$Tally" "failed" "I") (List.mem_of_getElem? (i := 5) rfl)) (fun _ h9 => h9) rfl (by decide +kernel) rfl rfl (Nat.le_of_ble_eq_true rfl) dX7_guard_33 (fun H locs hP hD hS => ?_)
            obtain ⟨S69, eS69⟩ : ∃ z, z = cs S 204 0 (fun _ => (cv S 204 0 0) + 1) := ⟨_, rfl⟩
            have hP : va_P D vwCl (cW cI cZ cP cF q S69) H := by rw [eS69, ← cW_put (k := 204) (κ := 20) (i := 0) (g := (fun _ => (cv S 204 0 0) + 1)) rfl hD0_68 hp_68 hi_68, cput_204]; exact hP
            have hD : va_D A (cW cI cZ cP cF q S69) := by rw [eS69, ← cW_put (k := 204) (κ := 20) (i := 0) (g := (fun _ => (cv S 204 0 0) + 1)) rfl hD0_68 hp_68 hi_68, cput_204]; exact hD
            have hN : S69.2 = S.2 := by rw [eS69]; exact hN
            have h := h S69 eS69
            refine lv_aload hx hb dX7_guard_36 (lv_at hl 1 rfl) ?_
            refine lv_dup hx hb dX7_guard_38 rfl ?_
            have hi_70 := h.1
            have h := h.2
            obtain ⟨p_70, hp_70⟩ := cget_28 cI cZ cP cF q S69 hi_70
            refine va_get (D := D) (ci := 5) (v := .int (cv S69 284 (((cv S 220 i1 0) : Int32).toNatClampNeg) 0)) (C := RX5) (T := TX5) (N := 9) hx hb hts (fun _ h => List.mem_cons_of_mem _ (List.mem_append_left _ (List.mem_append_right _ h))) hown hK hP p_70 hp_70 rfl 4 (by decide) (hts (.fieldLink RX7 221 "TemplateForge$Heat" "failed" "I") (List.mem_of_getElem? (i := 6) rfl)) (fun _ h9 => h9) rfl dX7_guard_39 ?_
            refine lv_iconst (v := 1) hx hb dX7_guard_42 (by decide) ?_
            refine lv_iadd hx hb dX7_guard_43 ?_
            have hi_71 := h.1
            have h := h.2
            obtain ⟨p_71, hp_71⟩ := cget_28 cI cZ cP cF q S69 hi_71
            have hD0_71 := hD
            refine va_put (D := D) (ci := 5) (v := .int ((cv S69 284 (((cv S 220 i1 0) : Int32).toNatClampNeg) 0) + 1)) (ty := .int) (C := RX5) (T := TX5) (N := 9) hx hb hts (fun _ h => List.mem_cons_of_mem _ (List.mem_append_left _ (List.mem_append_right _ h))) tyX5 tyX5_ok nmX5 hown hK hP hD hS p_71 hp_71 rfl 4 (by decide) (hts (.fieldLink RX7 221 "TemplateForge$Heat" "failed" "I") (List.mem_of_getElem? (i := 6) rfl)) (fun _ h9 => h9) rfl (by decide +kernel) rfl rfl (Nat.le_of_ble_eq_true rfl) dX7_guard_44 (fun H locs hP hD hS => ?_)
            obtain ⟨S72, eS72⟩ : ∃ z, z = cs S69 284 (((cv S 220 i1 0) : Int32).toNatClampNeg) (fun _ => (cv S69 284 (((cv S 220 i1 0) : Int32).toNatClampNeg) 0) + 1) := ⟨_, rfl⟩
            have hP : va_P D vwCl (cW cI cZ cP cF q S72) H := by rw [eS72, ← cW_put (k := 284) (κ := 28) (i := (((cv S 220 i1 0) : Int32).toNatClampNeg)) (g := (fun _ => (cv S69 284 (((cv S 220 i1 0) : Int32).toNatClampNeg) 0) + 1)) rfl hD0_71 hp_71 hi_71, cput_284]; exact hP
            have hD : va_D A (cW cI cZ cP cF q S72) := by rw [eS72, ← cW_put (k := 284) (κ := 28) (i := (((cv S 220 i1 0) : Int32).toNatClampNeg)) (g := (fun _ => (cv S69 284 (((cv S 220 i1 0) : Int32).toNatClampNeg) 0) + 1)) rfl hD0_71 hp_71 hi_71, cput_284]; exact hD
            have hN : S72.2 = S.2 := by rw [eS72]; exact hN
            have h := h S72 eS72
            refine lv_aload hx hb dX7_guard_47 (lv_at hl 1 rfl) ?_
            refine lv_iload_n hx hb dX7_guard_49 rfl (lv_at hl 4 rfl) ?_
            have hi_73 := h.1
            have h := h.2
            obtain ⟨p_73, hp_73⟩ := cget_28 cI cZ cP cF q S72 hi_73
            have hFc := zm_free hD hS hA
            refine va_callv (va_runV (As := [.int a2]) (rest := []) ⟨hx, hb, hml, hown, hts⟩ (zd_X5_markVarying l D cI cZ cP cF q S72 (((cv S 220 i1 0) : Int32).toNatClampNeg) a2 H.size _ h) (cwV 1 hts zg_zd_X7_guard_zd_X5_markVarying_222 rfl rfl rfl (by decide +kernel) ⟨Nat.le_of_ble_eq_true rfl, Nat.le_of_ble_eq_true rfl⟩) ⟨zCW, va_recv hK hP (ci := 5) (q0 := p_73) rfl hp_73, fun U hU hW => ⟨rfl, by rw [hU], by rw [hU]; exact hP, hE.warm hW, hD.weaken (fun _ _ _ _ => trivial)⟩⟩ rfl rfl hl.1 rfl (lv_room (Nat.le_of_ble_eq_true rfl)) dX7_guard_50 ⟨Nat.le_of_ble_eq_true rfl, Nat.le_of_ble_eq_true rfl⟩) hS (fun q _ h => hFc q h) hFc (fun S74 t H locs ht hvm h hB hz1 hk1 hS => ?_)
            obtain ⟨hP, hD1, hN1⟩ := hB
            rw [ht] at hP
            have hD := hD1.weaken (fun k q _ hq => hFc q.1 hq)
            have hN := hN1.trans hN
            refine lv_aload hx hb dX7_guard_53 (lv_at hl 1 rfl) ?_
            have hi_75 := h.1
            have h := h.2
            obtain ⟨p_75, hp_75⟩ := cget_28 cI cZ cP cF q S74 hi_75
            refine va_get (D := D) (ci := 5) (v := .int (cv S74 280 (((cv S 220 i1 0) : Int32).toNatClampNeg) 0)) (C := RX5) (T := TX5) (N := 9) hx hb hts (fun _ h => List.mem_cons_of_mem _ (List.mem_append_left _ (List.mem_append_right _ h))) hown hK hP p_75 hp_75 rfl 0 (by decide) (hts (.fieldLink RX7 133 "TemplateForge$Heat" "hasCode" "Z") (List.mem_of_getElem? (i := 13) rfl)) (fun _ h9 => h9) rfl dX7_guard_55 ?_
            refine lv_if_eq (tgt := 81) hx hb dX7_guard_58 (by decide) (fun c_76 => ?_) (fun c_76 => ?_)
            · have h := h.1 c_76
              refine lv_aload_n hx hb dX7_guard_81 rfl (lv_at hl 3 rfl) ?_
              have hi_77 := h.1
              have h := h.2
              obtain ⟨p_77, hp_77⟩ := cget_22 cI cZ cP cF q S74 hi_77
              refine va_get (D := D) (ci := 4) (v := .int (cv S74 222 i1 0)) (C := RX4) (T := TX4) (N := 5) hx hb hts (fun _ h => List.mem_cons_of_mem _ (List.mem_append_left _ (List.mem_append_left _ (List.mem_append_left _ (List.mem_append_left _ (List.mem_append_left _ (List.mem_append_right _ h))))))) hown hK hP p_77 hp_77 rfl 2 (by decide) (hts (.fieldLink RX7 97 "TemplateForge$Frame" "place" "I") (List.mem_of_getElem? (i := 14) rfl)) (fun _ h9 => h9) rfl dX7_guard_82 ?_
              refine lv_aload_n hx hb dX7_guard_85 rfl (lv_at hl 3 rfl) ?_
              have hi_78 := h.1
              have h := h.2
              obtain ⟨p_78, hp_78⟩ := cget_22 cI cZ cP cF q S74 hi_78
              by_cases hn_79 : (cv S74 221 i1 0) < 0
              · have h := h.1 hn_79
                refine va_get (D := D) (ci := 4) (v := .null) (C := RX4) (T := TX4) (N := 5) hx hb hts (fun _ h => List.mem_cons_of_mem _ (List.mem_append_left _ (List.mem_append_left _ (List.mem_append_left _ (List.mem_append_left _ (List.mem_append_left _ (List.mem_append_right _ h))))))) hown hK hP p_78 hp_78 rfl 1 (by decide) (hts (.fieldLink RX7 94 "TemplateForge$Frame" "code" "LTemplateForge$Code;") (List.mem_of_getElem? (i := 15) rfl)) (fun _ h9 => h9) (congrArg some (cn_neg hn_79)) dX7_guard_86 ?_
                exact h.elim
              · have h := h.2 hn_79
                refine va_get (D := D) (ci := 4) (v := .ref (q 32 ((cv S74 221 i1 0) : Int32).toNatClampNeg)) (C := RX4) (T := TX4) (N := 5) hx hb hts (fun _ h => List.mem_cons_of_mem _ (List.mem_append_left _ (List.mem_append_left _ (List.mem_append_left _ (List.mem_append_left _ (List.mem_append_left _ (List.mem_append_right _ h))))))) hown hK hP p_78 hp_78 rfl 1 (by decide) (hts (.fieldLink RX7 94 "TemplateForge$Frame" "code" "LTemplateForge$Code;") (List.mem_of_getElem? (i := 15) rfl)) (fun _ h9 => h9) (congrArg some (cn_pos hn_79)) dX7_guard_86 ?_
                have hi_80 := h.1
                have h := h.2
                obtain ⟨p_80, hp_80⟩ := cget_32 cI cZ cP cF q S74 hi_80
                refine va_get (D := D) (ci := 1) (v := .int (cv S74 321 (((cv S74 221 i1 0) : Int32).toNatClampNeg) 0)) (C := RX1) (T := TX1) (N := 4) hx hb hts (fun _ h => List.mem_cons_of_mem _ (List.mem_append_right _ h)) hown hK hP p_80 hp_80 rfl 1 (by decide) (hts (.fieldLink RX7 235 "TemplateForge$Code" "heads" "I") (List.mem_of_getElem? (i := 16) rfl)) (fun _ h9 => h9) rfl dX7_guard_89 ?_
                refine lv_icmp_gt (tgt := 99) hx hb dX7_guard_92 (by decide) (fun c_81 => ?_) (fun c_81 => ?_)
                · have h := h.1 c_81
                  refine lv_iconst (v := 0) hx hb dX7_guard_99 (by decide) ?_
                  refine lv_istore (lv' := [(7, .int 0), (6, .ref (q 32 (((cv S 249 (((cv S 220 i1 0) : Int32).toNatClampNeg) 0) : Int32).toNatClampNeg))), (5, .ref (q 28 (((cv S 220 i1 0) : Int32).toNatClampNeg))), (0, .ref (q 12 0)), (1, .ref (q 22 i1)), (2, .int a2), (3, .int a3), (4, .int a4)]) hx hb dX7_guard_100 hl (by decide) rfl (fun ls hl => ?_)
                  refine lv_aload_n hx hb dX7_guard_102 rfl (lv_at hl 4 rfl) ?_
                  refine lv_aload hx hb dX7_guard_103 (lv_at hl 1 rfl) ?_
                  have hi_82 := h.1
                  have h := h.2
                  obtain ⟨p_82, hp_82⟩ := cget_22 cI cZ cP cF q S74 hi_82
                  have hD0_82 := hD
                  refine va_put (D := D) (ci := 4) (v := .ref (q 32 (((cv S 249 (((cv S 220 i1 0) : Int32).toNatClampNeg) 0) : Int32).toNatClampNeg))) (ty := .object "TemplateForge$Code") (C := RX4) (T := TX4) (N := 5) hx hb hts (fun _ h => List.mem_cons_of_mem _ (List.mem_append_left _ (List.mem_append_left _ (List.mem_append_left _ (List.mem_append_left _ (List.mem_append_left _ (List.mem_append_right _ h))))))) tyX4 tyX4_ok nmX4 hown hK hP hD hS p_82 hp_82 rfl 1 (by decide) (hts (.fieldLink RX7 94 "TemplateForge$Frame" "code" "LTemplateForge$Code;") (List.mem_of_getElem? (i := 15) rfl)) (fun _ h9 => h9) rfl (by decide +kernel) rfl rfl (Nat.le_of_ble_eq_true rfl) dX7_guard_105 (fun H locs hP hD hS => ?_)
                  obtain ⟨S83, eS83⟩ : ∃ z, z = cs S74 221 i1 (fun _ => (cv S 249 (((cv S 220 i1 0) : Int32).toNatClampNeg) 0)) := ⟨_, rfl⟩
                  have hP : va_P D vwCl (cW cI cZ cP cF q S83) H := by rw [eS83, ← cW_put (k := 221) (κ := 22) (i := i1) (g := (fun _ => (cv S 249 (((cv S 220 i1 0) : Int32).toNatClampNeg) 0))) rfl hD0_82 hp_82 hi_82, cput_221, show cn q 32 (cv S 249 (((cv S 220 i1 0) : Int32).toNatClampNeg) 0) = .ref (q 32 (((cv S 249 (((cv S 220 i1 0) : Int32).toNatClampNeg) 0) : Int32).toNatClampNeg)) from cn_pos hn_8]; exact hP
                  have hD : va_D A (cW cI cZ cP cF q S83) := by rw [eS83, ← cW_put (k := 221) (κ := 22) (i := i1) (g := (fun _ => (cv S 249 (((cv S 220 i1 0) : Int32).toNatClampNeg) 0))) rfl hD0_82 hp_82 hi_82, cput_221, show cn q 32 (cv S 249 (((cv S 220 i1 0) : Int32).toNatClampNeg) 0) = .ref (q 32 (((cv S 249 (((cv S 220 i1 0) : Int32).toNatClampNeg) 0) : Int32).toNatClampNeg)) from cn_pos hn_8]; exact hD
                  have hN : S83.2 = S.2 := by rw [eS83]; exact hN
                  have h := h S83 eS83
                  refine lv_aload_n hx hb dX7_guard_108 rfl (lv_at hl 4 rfl) ?_
                  refine lv_aload hx hb dX7_guard_109 (lv_at hl 1 rfl) ?_
                  refine lv_ifnull hx hb dX7_guard_111 ?_
                  refine lv_iload hx hb dX7_guard_114 (lv_at hl 0 rfl) ?_
                  refine lv_if_eq (tgt := 123) hx hb dX7_guard_116 (by decide) (fun _ => ?_) (fun c => absurd (by decide) c)
                  refine lv_aload hx hb dX7_guard_123 (lv_at hl 1 rfl) ?_
                  refine lv_iload hx hb dX7_guard_125 (lv_at hl 7 rfl) ?_
                  refine lv_iconst (v := 1) hx hb dX7_guard_127 (by decide) ?_
                  refine lv_iadd hx hb dX7_guard_128 ?_
                  have hi_84 := h.1
                  have h := h.2
                  obtain ⟨p_84, hp_84⟩ := cget_32 cI cZ cP cF q S83 hi_84
                  refine vp_callSi (va_Run.run (va_runV (As := [.int (a4 + 1)]) (rest := [.ref (q 22 i1)]) ⟨hx, hb, hml, hown, hts⟩ (zd_X1_startOf l D cI cZ cP cF q S83 (((cv S 249 (((cv S 220 i1 0) : Int32).toNatClampNeg) 0) : Int32).toNatClampNeg) (a4 + 1)  _ h) (cwV 1 hts zg_zd_X7_guard_zd_X1_startOf_212 rfl rfl rfl (by decide +kernel) ⟨Nat.le_of_ble_eq_true rfl, Nat.le_of_ble_eq_true rfl⟩) ⟨zCR, va_recv hK hP (ci := 1) (q0 := p_84) rfl hp_84, fun U hU hW => ⟨rfl, by rw [hU]; exact hP, hE.warm hW⟩⟩ rfl rfl hl.1 rfl (lv_room (Nat.le_of_ble_eq_true rfl)) dX7_guard_129 ⟨Nat.le_of_ble_eq_true rfl, Nat.le_of_ble_eq_true rfl⟩)) (fun r85 h => ?_)
                  have hi_86 := h.1
                  have h := h.2
                  obtain ⟨p_86, hp_86⟩ := cget_22 cI cZ cP cF q S83 hi_86
                  have hD0_86 := hD
                  refine va_put (D := D) (ci := 4) (v := .int r85) (ty := .int) (C := RX4) (T := TX4) (N := 5) hx hb hts (fun _ h => List.mem_cons_of_mem _ (List.mem_append_left _ (List.mem_append_left _ (List.mem_append_left _ (List.mem_append_left _ (List.mem_append_left _ (List.mem_append_right _ h))))))) tyX4 tyX4_ok nmX4 hown hK hP hD hS p_86 hp_86 rfl 2 (by decide) (hts (.fieldLink RX7 97 "TemplateForge$Frame" "place" "I") (List.mem_of_getElem? (i := 14) rfl)) (fun _ h9 => h9) rfl (by decide +kernel) rfl rfl (Nat.le_of_ble_eq_true rfl) dX7_guard_132 (fun H locs hP hD hS => ?_)
                  obtain ⟨S87, eS87⟩ : ∃ z, z = cs S83 222 i1 (fun _ => r85) := ⟨_, rfl⟩
                  have hP : va_P D vwCl (cW cI cZ cP cF q S87) H := by rw [eS87, ← cW_put (k := 222) (κ := 22) (i := i1) (g := (fun _ => r85)) rfl hD0_86 hp_86 hi_86, cput_222]; exact hP
                  have hD : va_D A (cW cI cZ cP cF q S87) := by rw [eS87, ← cW_put (k := 222) (κ := 22) (i := i1) (g := (fun _ => r85)) rfl hD0_86 hp_86 hi_86, cput_222]; exact hD
                  have hN : S87.2 = S.2 := by rw [eS87]; exact hN
                  have h := h S87 eS87
                  exact W.vret hx hb hr (fun t ht hW => ⟨⟨S87, rfl, h, by rw [ht]; exact hP, hD, hN⟩, hS.F ht⟩) hS.2.2 dX7_guard_135
                · have h := h.2 c_81
                  refine lv_iconst (v := 1) hx hb dX7_guard_95 (by decide) ?_
                  refine lv_goto (tgt := 100) hx hb dX7_guard_96 (by decide) ?_
                  refine lv_istore (lv' := [(7, .int 1), (6, .ref (q 32 (((cv S 249 (((cv S 220 i1 0) : Int32).toNatClampNeg) 0) : Int32).toNatClampNeg))), (5, .ref (q 28 (((cv S 220 i1 0) : Int32).toNatClampNeg))), (0, .ref (q 12 0)), (1, .ref (q 22 i1)), (2, .int a2), (3, .int a3), (4, .int a4)]) hx hb dX7_guard_100 hl (by decide) rfl (fun ls hl => ?_)
                  refine lv_aload_n hx hb dX7_guard_102 rfl (lv_at hl 4 rfl) ?_
                  refine lv_aload hx hb dX7_guard_103 (lv_at hl 1 rfl) ?_
                  have hi_88 := h.1
                  have h := h.2
                  obtain ⟨p_88, hp_88⟩ := cget_22 cI cZ cP cF q S74 hi_88
                  have hD0_88 := hD
                  refine va_put (D := D) (ci := 4) (v := .ref (q 32 (((cv S 249 (((cv S 220 i1 0) : Int32).toNatClampNeg) 0) : Int32).toNatClampNeg))) (ty := .object "TemplateForge$Code") (C := RX4) (T := TX4) (N := 5) hx hb hts (fun _ h => List.mem_cons_of_mem _ (List.mem_append_left _ (List.mem_append_left _ (List.mem_append_left _ (List.mem_append_left _ (List.mem_append_left _ (List.mem_append_right _ h))))))) tyX4 tyX4_ok nmX4 hown hK hP hD hS p_88 hp_88 rfl 1 (by decide) (hts (.fieldLink RX7 94 "TemplateForge$Frame" "code" "LTemplateForge$Code;") (List.mem_of_getElem? (i := 15) rfl)) (fun _ h9 => h9) rfl (by decide +kernel) rfl rfl (Nat.le_of_ble_eq_true rfl) dX7_guard_105 (fun H locs hP hD hS => ?_)
                  obtain ⟨S89, eS89⟩ : ∃ z, z = cs S74 221 i1 (fun _ => (cv S 249 (((cv S 220 i1 0) : Int32).toNatClampNeg) 0)) := ⟨_, rfl⟩
                  have hP : va_P D vwCl (cW cI cZ cP cF q S89) H := by rw [eS89, ← cW_put (k := 221) (κ := 22) (i := i1) (g := (fun _ => (cv S 249 (((cv S 220 i1 0) : Int32).toNatClampNeg) 0))) rfl hD0_88 hp_88 hi_88, cput_221, show cn q 32 (cv S 249 (((cv S 220 i1 0) : Int32).toNatClampNeg) 0) = .ref (q 32 (((cv S 249 (((cv S 220 i1 0) : Int32).toNatClampNeg) 0) : Int32).toNatClampNeg)) from cn_pos hn_8]; exact hP
                  have hD : va_D A (cW cI cZ cP cF q S89) := by rw [eS89, ← cW_put (k := 221) (κ := 22) (i := i1) (g := (fun _ => (cv S 249 (((cv S 220 i1 0) : Int32).toNatClampNeg) 0))) rfl hD0_88 hp_88 hi_88, cput_221, show cn q 32 (cv S 249 (((cv S 220 i1 0) : Int32).toNatClampNeg) 0) = .ref (q 32 (((cv S 249 (((cv S 220 i1 0) : Int32).toNatClampNeg) 0) : Int32).toNatClampNeg)) from cn_pos hn_8]; exact hD
                  have hN : S89.2 = S.2 := by rw [eS89]; exact hN
                  have h := h S89 eS89
                  refine lv_aload_n hx hb dX7_guard_108 rfl (lv_at hl 4 rfl) ?_
                  refine lv_aload hx hb dX7_guard_109 (lv_at hl 1 rfl) ?_
                  refine lv_ifnull hx hb dX7_guard_111 ?_
                  refine lv_iload hx hb dX7_guard_114 (lv_at hl 0 rfl) ?_
                  refine lv_if_eq (tgt := 123) hx hb dX7_guard_116 (by decide) (fun c => absurd c (by decide)) (fun _ => ?_)
                  refine lv_iconst (v := 0) hx hb dX7_guard_119 (by decide) ?_
                  refine lv_goto (tgt := 132) hx hb dX7_guard_120 (by decide) ?_
                  have hi_90 := h.1
                  have h := h.2
                  obtain ⟨p_90, hp_90⟩ := cget_22 cI cZ cP cF q S89 hi_90
                  have hD0_90 := hD
                  refine va_put (D := D) (ci := 4) (v := .int 0) (ty := .int) (C := RX4) (T := TX4) (N := 5) hx hb hts (fun _ h => List.mem_cons_of_mem _ (List.mem_append_left _ (List.mem_append_left _ (List.mem_append_left _ (List.mem_append_left _ (List.mem_append_left _ (List.mem_append_right _ h))))))) tyX4 tyX4_ok nmX4 hown hK hP hD hS p_90 hp_90 rfl 2 (by decide) (hts (.fieldLink RX7 97 "TemplateForge$Frame" "place" "I") (List.mem_of_getElem? (i := 14) rfl)) (fun _ h9 => h9) rfl (by decide +kernel) rfl rfl (Nat.le_of_ble_eq_true rfl) dX7_guard_132 (fun H locs hP hD hS => ?_)
                  obtain ⟨S91, eS91⟩ : ∃ z, z = cs S89 222 i1 (fun _ => 0) := ⟨_, rfl⟩
                  have hP : va_P D vwCl (cW cI cZ cP cF q S91) H := by rw [eS91, ← cW_put (k := 222) (κ := 22) (i := i1) (g := (fun _ => 0)) rfl hD0_90 hp_90 hi_90, cput_222]; exact hP
                  have hD : va_D A (cW cI cZ cP cF q S91) := by rw [eS91, ← cW_put (k := 222) (κ := 22) (i := i1) (g := (fun _ => 0)) rfl hD0_90 hp_90 hi_90, cput_222]; exact hD
                  have hN : S91.2 = S.2 := by rw [eS91]; exact hN
                  have h := h S91 eS91
                  exact W.vret hx hb hr (fun t ht hW => ⟨⟨S91, rfl, h, by rw [ht]; exact hP, hD, hN⟩, hS.F ht⟩) hS.2.2 dX7_guard_135
            · have h := h.2 c_76
              refine lv_aload hx hb dX7_guard_61 (lv_at hl 1 rfl) ?_
              have hi_92 := h.1
              have h := h.2
              obtain ⟨p_92, hp_92⟩ := cget_28 cI cZ cP cF q S74 hi_92
              refine va_get (D := D) (ci := 5) (v := .int (cv S74 283 (((cv S 220 i1 0) : Int32).toNatClampNeg) 0)) (C := RX5) (T := TX5) (N := 9) hx hb hts (fun _ h => List.mem_cons_of_mem _ (List.mem_append_left _ (List.mem_append_right _ h))) hown hK hP p_92 hp_92 rfl 3 (by decide) (hts (.fieldLink RX7 226 "TemplateForge$Heat" "made" "I") (List.mem_of_getElem? (i := 17) rfl)) (fun _ h9 => h9) rfl dX7_guard_63 ?_
              refine lv_aload_n hx hb dX7_guard_66 rfl (lv_at hl 3 rfl) ?_
              have hi_93 := h.1
              have h := h.2
              obtain ⟨p_93, hp_93⟩ := cget_22 cI cZ cP cF q S74 hi_93
              by_cases hn_94 : (cv S74 221 i1 0) < 0
              · have h := h.1 hn_94
                refine va_get (D := D) (ci := 4) (v := .null) (C := RX4) (T := TX4) (N := 5) hx hb hts (fun _ h => List.mem_cons_of_mem _ (List.mem_append_left _ (List.mem_append_left _ (List.mem_append_left _ (List.mem_append_left _ (List.mem_append_left _ (List.mem_append_right _ h))))))) hown hK hP p_93 hp_93 rfl 1 (by decide) (hts (.fieldLink RX7 94 "TemplateForge$Frame" "code" "LTemplateForge$Code;") (List.mem_of_getElem? (i := 15) rfl)) (fun _ h9 => h9) (congrArg some (cn_neg hn_94)) dX7_guard_67 ?_
                exact h.elim
              · have h := h.2 hn_94
                refine va_get (D := D) (ci := 4) (v := .ref (q 32 ((cv S74 221 i1 0) : Int32).toNatClampNeg)) (C := RX4) (T := TX4) (N := 5) hx hb hts (fun _ h => List.mem_cons_of_mem _ (List.mem_append_left _ (List.mem_append_left _ (List.mem_append_left _ (List.mem_append_left _ (List.mem_append_left _ (List.mem_append_right _ h))))))) hown hK hP p_93 hp_93 rfl 1 (by decide) (hts (.fieldLink RX7 94 "TemplateForge$Frame" "code" "LTemplateForge$Code;") (List.mem_of_getElem? (i := 15) rfl)) (fun _ h9 => h9) (congrArg some (cn_pos hn_94)) dX7_guard_67 ?_
                have hi_95 := h.1
                have h := h.2
                obtain ⟨p_95, hp_95⟩ := cget_32 cI cZ cP cF q S74 hi_95
                refine va_get (D := D) (ci := 1) (v := .int (cv S74 320 (((cv S74 221 i1 0) : Int32).toNatClampNeg) 0)) (C := RX1) (T := TX1) (N := 4) hx hb hts (fun _ h => List.mem_cons_of_mem _ (List.mem_append_right _ h)) hown hK hP p_95 hp_95 rfl 0 (by decide) (hts (.fieldLink RX7 229 "TemplateForge$Code" "making" "I") (List.mem_of_getElem? (i := 18) rfl)) (fun _ h9 => h9) rfl dX7_guard_70 ?_
                refine lv_icmp_ne (tgt := 81) hx hb dX7_guard_73 (by decide) (fun c_96 => ?_) (fun c_96 => ?_)
                · have h := h.1 c_96
                  refine lv_aload_n hx hb dX7_guard_81 rfl (lv_at hl 3 rfl) ?_
                  have hi_97 := h.1
                  have h := h.2
                  obtain ⟨p_97, hp_97⟩ := cget_22 cI cZ cP cF q S74 hi_97
                  refine va_get (D := D) (ci := 4) (v := .int (cv S74 222 i1 0)) (C := RX4) (T := TX4) (N := 5) hx hb hts (fun _ h => List.mem_cons_of_mem _ (List.mem_append_left _ (List.mem_append_left _ (List.mem_append_left _ (List.mem_append_left _ (List.mem_append_left _ (List.mem_append_right _ h))))))) hown hK hP p_97 hp_97 rfl 2 (by decide) (hts (.fieldLink RX7 97 "TemplateForge$Frame" "place" "I") (List.mem_of_getElem? (i := 14) rfl)) (fun _ h9 => h9) rfl dX7_guard_82 ?_
                  refine lv_aload_n hx hb dX7_guard_85 rfl (lv_at hl 3 rfl) ?_
                  have hi_98 := h.1
                  have h := h.2
                  obtain ⟨p_98, hp_98⟩ := cget_22 cI cZ cP cF q S74 hi_98
                  by_cases hn_99 : (cv S74 221 i1 0) < 0
                  · have h := h.1 hn_99
                    refine va_get (D := D) (ci := 4) (v := .null) (C := RX4) (T := TX4) (N := 5) hx hb hts (fun _ h => List.mem_cons_of_mem _ (List.mem_append_left _ (List.mem_append_left _ (List.mem_append_left _ (List.mem_append_left _ (List.mem_append_left _ (List.mem_append_right _ h))))))) hown hK hP p_98 hp_98 rfl 1 (by decide) (hts (.fieldLink RX7 94 "TemplateForge$Frame" "code" "LTemplateForge$Code;") (List.mem_of_getElem? (i := 15) rfl)) (fun _ h9 => h9) (congrArg some (cn_neg hn_99)) dX7_guard_86 ?_
                    exact h.elim
                  · have h := h.2 hn_99
                    refine va_get (D := D) (ci := 4) (v := .ref (q 32 ((cv S74 221 i1 0) : Int32).toNatClampNeg)) (C := RX4) (T := TX4) (N := 5) hx hb hts (fun _ h => List.mem_cons_of_mem _ (List.mem_append_left _ (List.mem_append_left _ (List.mem_append_left _ (List.mem_append_left _ (List.mem_append_left _ (List.mem_append_right _ h))))))) hown hK hP p_98 hp_98 rfl 1 (by decide) (hts (.fieldLink RX7 94 "TemplateForge$Frame" "code" "LTemplateForge$Code;") (List.mem_of_getElem? (i := 15) rfl)) (fun _ h9 => h9) (congrArg some (cn_pos hn_99)) dX7_guard_86 ?_
                    have hi_100 := h.1
                    have h := h.2
                    obtain ⟨p_100, hp_100⟩ := cget_32 cI cZ cP cF q S74 hi_100
                    refine va_get (D := D) (ci := 1) (v := .int (cv S74 321 (((cv S74 221 i1 0) : Int32).toNatClampNeg) 0)) (C := RX1) (T := TX1) (N := 4) hx hb hts (fun _ h => List.mem_cons_of_mem _ (List.mem_append_right _ h)) hown hK hP p_100 hp_100 rfl 1 (by decide) (hts (.fieldLink RX7 235 "TemplateForge$Code" "heads" "I") (List.mem_of_getElem? (i := 16) rfl)) (fun _ h9 => h9) rfl dX7_guard_89 ?_
                    refine lv_icmp_gt (tgt := 99) hx hb dX7_guard_92 (by decide) (fun c_101 => ?_) (fun c_101 => ?_)
                    · have h := h.1 c_101
                      refine lv_iconst (v := 0) hx hb dX7_guard_99 (by decide) ?_
                      refine lv_istore (lv' := [(7, .int 0), (6, .ref (q 32 (((cv S 249 (((cv S 220 i1 0) : Int32).toNatClampNeg) 0) : Int32).toNatClampNeg))), (5, .ref (q 28 (((cv S 220 i1 0) : Int32).toNatClampNeg))), (0, .ref (q 12 0)), (1, .ref (q 22 i1)), (2, .int a2), (3, .int a3), (4, .int a4)]) hx hb dX7_guard_100 hl (by decide) rfl (fun ls hl => ?_)
                      refine lv_aload_n hx hb dX7_guard_102 rfl (lv_at hl 4 rfl) ?_
                      refine lv_aload hx hb dX7_guard_103 (lv_at hl 1 rfl) ?_
                      have hi_102 := h.1
                      have h := h.2
                      obtain ⟨p_102, hp_102⟩ := cget_22 cI cZ cP cF q S74 hi_102
                      have hD0_102 := hD
                      refine va_put (D := D) (ci := 4) (v := .ref (q 32 (((cv S 249 (((cv S 220 i1 0) : Int32).toNatClampNeg) 0) : Int32).toNatClampNeg))) (ty := .object "TemplateForge$Code") (C := RX4) (T := TX4) (N := 5) hx hb hts (fun _ h => List.mem_cons_of_mem _ (List.mem_append_left _ (List.mem_append_left _ (List.mem_append_left _ (List.mem_append_left _ (List.mem_append_left _ (List.mem_append_right _ h))))))) tyX4 tyX4_ok nmX4 hown hK hP hD hS p_102 hp_102 rfl 1 (by decide) (hts (.fieldLink RX7 94 "TemplateForge$Frame" "code" "LTemplateForge$Code;") (List.mem_of_getElem? (i := 15) rfl)) (fun _ h9 => h9) rfl (by decide +kernel) rfl rfl (Nat.le_of_ble_eq_true rfl) dX7_guard_105 (fun H locs hP hD hS => ?_)
                      obtain ⟨S103, eS103⟩ : ∃ z, z = cs S74 221 i1 (fun _ => (cv S 249 (((cv S 220 i1 0) : Int32).toNatClampNeg) 0)) := ⟨_, rfl⟩
                      have hP : va_P D vwCl (cW cI cZ cP cF q S103) H := by rw [eS103, ← cW_put (k := 221) (κ := 22) (i := i1) (g := (fun _ => (cv S 249 (((cv S 220 i1 0) : Int32).toNatClampNeg) 0))) rfl hD0_102 hp_102 hi_102, cput_221, show cn q 32 (cv S 249 (((cv S 220 i1 0) : Int32).toNatClampNeg) 0) = .ref (q 32 (((cv S 249 (((cv S 220 i1 0) : Int32).toNatClampNeg) 0) : Int32).toNatClampNeg)) from cn_pos hn_8]; exact hP
                      have hD : va_D A (cW cI cZ cP cF q S103) := by rw [eS103, ← cW_put (k := 221) (κ := 22) (i := i1) (g := (fun _ => (cv S 249 (((cv S 220 i1 0) : Int32).toNatClampNeg) 0))) rfl hD0_102 hp_102 hi_102, cput_221, show cn q 32 (cv S 249 (((cv S 220 i1 0) : Int32).toNatClampNeg) 0) = .ref (q 32 (((cv S 249 (((cv S 220 i1 0) : Int32).toNatClampNeg) 0) : Int32).toNatClampNeg)) from cn_pos hn_8]; exact hD
                      have hN : S103.2 = S.2 := by rw [eS103]; exact hN
                      have h := h S103 eS103
                      refine lv_aload_n hx hb dX7_guard_108 rfl (lv_at hl 4 rfl) ?_
                      refine lv_aload hx hb dX7_guard_109 (lv_at hl 1 rfl) ?_
                      refine lv_ifnull hx hb dX7_guard_111 ?_
                      refine lv_iload hx hb dX7_guard_114 (lv_at hl 0 rfl) ?_
                      refine lv_if_eq (tgt := 123) hx hb dX7_guard_116 (by decide) (fun _ => ?_) (fun c => absurd (by decide) c)
                      refine lv_aload hx hb dX7_guard_123 (lv_at hl 1 rfl) ?_
                      refine lv_iload hx hb dX7_guard_125 (lv_at hl 7 rfl) ?_
                      refine lv_iconst (v := 1) hx hb dX7_guard_127 (by decide) ?_
                      refine lv_iadd hx hb dX7_guard_128 ?_
                      have hi_104 := h.1
                      have h := h.2
                      obtain ⟨p_104, hp_104⟩ := cget_32 cI cZ cP cF q S103 hi_104
                      refine vp_callSi (va_Run.run (va_runV (As := [.int (a4 + 1)]) (rest := [.ref (q 22 i1)]) ⟨hx, hb, hml, hown, hts⟩ (zd_X1_startOf l D cI cZ cP cF q S103 (((cv S 249 (((cv S 220 i1 0) : Int32).toNatClampNeg) 0) : Int32).toNatClampNeg) (a4 + 1)  _ h) (cwV 1 hts zg_zd_X7_guard_zd_X1_startOf_212 rfl rfl rfl (by decide +kernel) ⟨Nat.le_of_ble_eq_true rfl, Nat.le_of_ble_eq_true rfl⟩) ⟨zCR, va_recv hK hP (ci := 1) (q0 := p_104) rfl hp_104, fun U hU hW => ⟨rfl, by rw [hU]; exact hP, hE.warm hW⟩⟩ rfl rfl hl.1 rfl (lv_room (Nat.le_of_ble_eq_true rfl)) dX7_guard_129 ⟨Nat.le_of_ble_eq_true rfl, Nat.le_of_ble_eq_true rfl⟩)) (fun r105 h => ?_)
                      have hi_106 := h.1
                      have h := h.2
                      obtain ⟨p_106, hp_106⟩ := cget_22 cI cZ cP cF q S103 hi_106
                      have hD0_106 := hD
                      refine va_put (D := D) (ci := 4) (v := .int r105) (ty := .int) (C := RX4) (T := TX4) (N := 5) hx hb hts (fun _ h => List.mem_cons_of_mem _ (List.mem_append_left _ (List.mem_append_left _ (List.mem_append_left _ (List.mem_append_left _ (List.mem_append_left _ (List.mem_append_right _ h))))))) tyX4 tyX4_ok nmX4 hown hK hP hD hS p_106 hp_106 rfl 2 (by decide) (hts (.fieldLink RX7 97 "TemplateForge$Frame" "place" "I") (List.mem_of_getElem? (i := 14) rfl)) (fun _ h9 => h9) rfl (by decide +kernel) rfl rfl (Nat.le_of_ble_eq_true rfl) dX7_guard_132 (fun H locs hP hD hS => ?_)
                      obtain ⟨S107, eS107⟩ : ∃ z, z = cs S103 222 i1 (fun _ => r105) := ⟨_, rfl⟩
                      have hP : va_P D vwCl (cW cI cZ cP cF q S107) H := by rw [eS107, ← cW_put (k := 222) (κ := 22) (i := i1) (g := (fun _ => r105)) rfl hD0_106 hp_106 hi_106, cput_222]; exact hP
                      have hD : va_D A (cW cI cZ cP cF q S107) := by rw [eS107, ← cW_put (k := 222) (κ := 22) (i := i1) (g := (fun _ => r105)) rfl hD0_106 hp_106 hi_106, cput_222]; exact hD
                      have hN : S107.2 = S.2 := by rw [eS107]; exact hN
                      have h := h S107 eS107
                      exact W.vret hx hb hr (fun t ht hW => ⟨⟨S107, rfl, h, by rw [ht]; exact hP, hD, hN⟩, hS.F ht⟩) hS.2.2 dX7_guard_135
                    · have h := h.2 c_101
                      refine lv_iconst (v := 1) hx hb dX7_guard_95 (by decide) ?_
                      refine lv_goto (tgt := 100) hx hb dX7_guard_96 (by decide) ?_
                      refine lv_istore (lv' := [(7, .int 1), (6, .ref (q 32 (((cv S 249 (((cv S 220 i1 0) : Int32).toNatClampNeg) 0) : Int32).toNatClampNeg))), (5, .ref (q 28 (((cv S 220 i1 0) : Int32).toNatClampNeg))), (0, .ref (q 12 0)), (1, .ref (q 22 i1)), (2, .int a2), (3, .int a3), (4, .int a4)]) hx hb dX7_guard_100 hl (by decide) rfl (fun ls hl => ?_)
                      refine lv_aload_n hx hb dX7_guard_102 rfl (lv_at hl 4 rfl) ?_
                      refine lv_aload hx hb dX7_guard_103 (lv_at hl 1 rfl) ?_
                      have hi_108 := h.1
                      have h := h.2
                      obtain ⟨p_108, hp_108⟩ := cget_22 cI cZ cP cF q S74 hi_108
                      have hD0_108 := hD
                      refine va_put (D := D) (ci := 4) (v := .ref (q 32 (((cv S 249 (((cv S 220 i1 0) : Int32).toNatClampNeg) 0) : Int32).toNatClampNeg))) (ty := .object "TemplateForge$Code") (C := RX4) (T := TX4) (N := 5) hx hb hts (fun _ h => List.mem_cons_of_mem _ (List.mem_append_left _ (List.mem_append_left _ (List.mem_append_left _ (List.mem_append_left _ (List.mem_append_left _ (List.mem_append_right _ h))))))) tyX4 tyX4_ok nmX4 hown hK hP hD hS p_108 hp_108 rfl 1 (by decide) (hts (.fieldLink RX7 94 "TemplateForge$Frame" "code" "LTemplateForge$Code;") (List.mem_of_getElem? (i := 15) rfl)) (fun _ h9 => h9) rfl (by decide +kernel) rfl rfl (Nat.le_of_ble_eq_true rfl) dX7_guard_105 (fun H locs hP hD hS => ?_)
                      obtain ⟨S109, eS109⟩ : ∃ z, z = cs S74 221 i1 (fun _ => (cv S 249 (((cv S 220 i1 0) : Int32).toNatClampNeg) 0)) := ⟨_, rfl⟩
                      have hP : va_P D vwCl (cW cI cZ cP cF q S109) H := by rw [eS109, ← cW_put (k := 221) (κ := 22) (i := i1) (g := (fun _ => (cv S 249 (((cv S 220 i1 0) : Int32).toNatClampNeg) 0))) rfl hD0_108 hp_108 hi_108, cput_221, show cn q 32 (cv S 249 (((cv S 220 i1 0) : Int32).toNatClampNeg) 0) = .ref (q 32 (((cv S 249 (((cv S 220 i1 0) : Int32).toNatClampNeg) 0) : Int32).toNatClampNeg)) from cn_pos hn_8]; exact hP
                      have hD : va_D A (cW cI cZ cP cF q S109) := by rw [eS109, ← cW_put (k := 221) (κ := 22) (i := i1) (g := (fun _ => (cv S 249 (((cv S 220 i1 0) : Int32).toNatClampNeg) 0))) rfl hD0_108 hp_108 hi_108, cput_221, show cn q 32 (cv S 249 (((cv S 220 i1 0) : Int32).toNatClampNeg) 0) = .ref (q 32 (((cv S 249 (((cv S 220 i1 0) : Int32).toNatClampNeg) 0) : Int32).toNatClampNeg)) from cn_pos hn_8]; exact hD
                      have hN : S109.2 = S.2 := by rw [eS109]; exact hN
                      have h := h S109 eS109
                      refine lv_aload_n hx hb dX7_guard_108 rfl (lv_at hl 4 rfl) ?_
                      refine lv_aload hx hb dX7_guard_109 (lv_at hl 1 rfl) ?_
                      refine lv_ifnull hx hb dX7_guard_111 ?_
                      refine lv_iload hx hb dX7_guard_114 (lv_at hl 0 rfl) ?_
                      refine lv_if_eq (tgt := 123) hx hb dX7_guard_116 (by decide) (fun c => absurd c (by decide)) (fun _ => ?_)
                      refine lv_iconst (v := 0) hx hb dX7_guard_119 (by decide) ?_
                      refine lv_goto (tgt := 132) hx hb dX7_guard_120 (by decide) ?_
                      have hi_110 := h.1
                      have h := h.2
                      obtain ⟨p_110, hp_110⟩ := cget_22 cI cZ cP cF q S109 hi_110
                      have hD0_110 := hD
                      refine va_put (D := D) (ci := 4) (v := .int 0) (ty := .int) (C := RX4) (T := TX4) (N := 5) hx hb hts (fun _ h => List.mem_cons_of_mem _ (List.mem_append_left _ (List.mem_append_left _ (List.mem_append_left _ (List.mem_append_left _ (List.mem_append_left _ (List.mem_append_right _ h))))))) tyX4 tyX4_ok nmX4 hown hK hP hD hS p_110 hp_110 rfl 2 (by decide) (hts (.fieldLink RX7 97 "TemplateForge$Frame" "place" "I") (List.mem_of_getElem? (i := 14) rfl)) (fun _ h9 => h9) rfl (by decide +kernel) rfl rfl (Nat.le_of_ble_eq_true rfl) dX7_guard_132 (fun H locs hP hD hS => ?_)
                      obtain ⟨S111, eS111⟩ : ∃ z, z = cs S109 222 i1 (fun _ => 0) := ⟨_, rfl⟩
                      have hP : va_P D vwCl (cW cI cZ cP cF q S111) H := by rw [eS111, ← cW_put (k := 222) (κ := 22) (i := i1) (g := (fun _ => 0)) rfl hD0_110 hp_110 hi_110, cput_222]; exact hP
                      have hD : va_D A (cW cI cZ cP cF q S111) := by rw [eS111, ← cW_put (k := 222) (κ := 22) (i := i1) (g := (fun _ => 0)) rfl hD0_110 hp_110 hi_110, cput_222]; exact hD
                      have hN : S111.2 = S.2 := by rw [eS111]; exact hN
                      have h := h S111 eS111
                      exact W.vret hx hb hr (fun t ht hW => ⟨⟨S111, rfl, h, by rw [ht]; exact hP, hD, hN⟩, hS.F ht⟩) hS.2.2 dX7_guard_135
                · have h := h.2 c_96
                  refine lv_aload hx hb dX7_guard_76 (lv_at hl 1 rfl) ?_
                  have hi_112 := h.1
                  have h := h.2
                  obtain ⟨p_112, hp_112⟩ := cget_28 cI cZ cP cF q S74 hi_112
                  have hFc := zm_free hD hS hA
                  refine va_callv (va_runV (As := []) (rest := []) ⟨hx, hb, hml, hown, hts⟩ (zd_X5_throwAway l D cI cZ cP cF q S74 (((cv S 220 i1 0) : Int32).toNatClampNeg) H.size _ h) (cwV 0 hts zg_zd_X7_guard_zd_X5_throwAway_232 rfl rfl rfl (by decide +kernel) ⟨Nat.le_of_ble_eq_true rfl, Nat.le_of_ble_eq_true rfl⟩) ⟨zCW, va_recv hK hP (ci := 5) (q0 := p_112) rfl hp_112, fun U hU hW => ⟨rfl, by rw [hU], by rw [hU]; exact hP, hE.warm hW, hD.weaken (fun _ _ _ _ => trivial)⟩⟩ rfl rfl hl.1 rfl (lv_room (Nat.le_of_ble_eq_true rfl)) dX7_guard_78 ⟨Nat.le_of_ble_eq_true rfl, Nat.le_of_ble_eq_true rfl⟩) hS (fun q _ h => hFc q h) hFc (fun S113 t H locs ht hvm h hB hz1 hk1 hS => ?_)
                  obtain ⟨hP, hD1, hN1⟩ := hB
                  rw [ht] at hP
                  have hD := hD1.weaken (fun k q _ hq => hFc q.1 hq)
                  have hN := hN1.trans hN
                  refine lv_aload_n hx hb dX7_guard_81 rfl (lv_at hl 3 rfl) ?_
                  have hi_114 := h.1
                  have h := h.2
                  obtain ⟨p_114, hp_114⟩ := cget_22 cI cZ cP cF q S113 hi_114
                  refine va_get (D := D) (ci := 4) (v := .int (cv S113 222 i1 0)) (C := RX4) (T := TX4) (N := 5) hx hb hts (fun _ h => List.mem_cons_of_mem _ (List.mem_append_left _ (List.mem_append_left _ (List.mem_append_left _ (List.mem_append_left _ (List.mem_append_left _ (List.mem_append_right _ h))))))) hown hK hP p_114 hp_114 rfl 2 (by decide) (hts (.fieldLink RX7 97 "TemplateForge$Frame" "place" "I") (List.mem_of_getElem? (i := 14) rfl)) (fun _ h9 => h9) rfl dX7_guard_82 ?_
                  refine lv_aload_n hx hb dX7_guard_85 rfl (lv_at hl 3 rfl) ?_
                  have hi_115 := h.1
                  have h := h.2
                  obtain ⟨p_115, hp_115⟩ := cget_22 cI cZ cP cF q S113 hi_115
                  by_cases hn_116 : (cv S113 221 i1 0) < 0
                  · have h := h.1 hn_116
                    refine va_get (D := D) (ci := 4) (v := .null) (C := RX4) (T := TX4) (N := 5) hx hb hts (fun _ h => List.mem_cons_of_mem _ (List.mem_append_left _ (List.mem_append_left _ (List.mem_append_left _ (List.mem_append_left _ (List.mem_append_left _ (List.mem_append_right _ h))))))) hown hK hP p_115 hp_115 rfl 1 (by decide) (hts (.fieldLink RX7 94 "TemplateForge$Frame" "code" "LTemplateForge$Code;") (List.mem_of_getElem? (i := 15) rfl)) (fun _ h9 => h9) (congrArg some (cn_neg hn_116)) dX7_guard_86 ?_
                    exact h.elim
                  · have h := h.2 hn_116
                    refine va_get (D := D) (ci := 4) (v := .ref (q 32 ((cv S113 221 i1 0) : Int32).toNatClampNeg)) (C := RX4) (T := TX4) (N := 5) hx hb hts (fun _ h => List.mem_cons_of_mem _ (List.mem_append_left _ (List.mem_append_left _ (List.mem_append_left _ (List.mem_append_left _ (List.mem_append_left _ (List.mem_append_right _ h))))))) hown hK hP p_115 hp_115 rfl 1 (by decide) (hts (.fieldLink RX7 94 "TemplateForge$Frame" "code" "LTemplateForge$Code;") (List.mem_of_getElem? (i := 15) rfl)) (fun _ h9 => h9) (congrArg some (cn_pos hn_116)) dX7_guard_86 ?_
                    have hi_117 := h.1
                    have h := h.2
                    obtain ⟨p_117, hp_117⟩ := cget_32 cI cZ cP cF q S113 hi_117
                    refine va_get (D := D) (ci := 1) (v := .int (cv S113 321 (((cv S113 221 i1 0) : Int32).toNatClampNeg) 0)) (C := RX1) (T := TX1) (N := 4) hx hb hts (fun _ h => List.mem_cons_of_mem _ (List.mem_append_right _ h)) hown hK hP p_117 hp_117 rfl 1 (by decide) (hts (.fieldLink RX7 235 "TemplateForge$Code" "heads" "I") (List.mem_of_getElem? (i := 16) rfl)) (fun _ h9 => h9) rfl dX7_guard_89 ?_
                    refine lv_icmp_gt (tgt := 99) hx hb dX7_guard_92 (by decide) (fun c_118 => ?_) (fun c_118 => ?_)
                    · have h := h.1 c_118
                      refine lv_iconst (v := 0) hx hb dX7_guard_99 (by decide) ?_
                      refine lv_istore (lv' := [(7, .int 0), (6, .ref (q 32 (((cv S 249 (((cv S 220 i1 0) : Int32).toNatClampNeg) 0) : Int32).toNatClampNeg))), (5, .ref (q 28 (((cv S 220 i1 0) : Int32).toNatClampNeg))), (0, .ref (q 12 0)), (1, .ref (q 22 i1)), (2, .int a2), (3, .int a3), (4, .int a4)]) hx hb dX7_guard_100 hl (by decide) rfl (fun ls hl => ?_)
                      refine lv_aload_n hx hb dX7_guard_102 rfl (lv_at hl 4 rfl) ?_
                      refine lv_aload hx hb dX7_guard_103 (lv_at hl 1 rfl) ?_
                      have hi_119 := h.1
                      have h := h.2
                      obtain ⟨p_119, hp_119⟩ := cget_22 cI cZ cP cF q S113 hi_119
                      have hD0_119 := hD
                      refine va_put (D := D) (ci := 4) (v := .ref (q 32 (((cv S 249 (((cv S 220 i1 0) : Int32).toNatClampNeg) 0) : Int32).toNatClampNeg))) (ty := .object "TemplateForge$Code") (C := RX4) (T := TX4) (N := 5) hx hb hts (fun _ h => List.mem_cons_of_mem _ (List.mem_append_left _ (List.mem_append_left _ (List.mem_append_left _ (List.mem_append_left _ (List.mem_append_left _ (List.mem_append_right _ h))))))) tyX4 tyX4_ok nmX4 hown hK hP hD hS p_119 hp_119 rfl 1 (by decide) (hts (.fieldLink RX7 94 "TemplateForge$Frame" "code" "LTemplateForge$Code;") (List.mem_of_getElem? (i := 15) rfl)) (fun _ h9 => h9) rfl (by decide +kernel) rfl rfl (Nat.le_of_ble_eq_true rfl) dX7_guard_105 (fun H locs hP hD hS => ?_)
                      obtain ⟨S120, eS120⟩ : ∃ z, z = cs S113 221 i1 (fun _ => (cv S 249 (((cv S 220 i1 0) : Int32).toNatClampNeg) 0)) := ⟨_, rfl⟩
                      have hP : va_P D vwCl (cW cI cZ cP cF q S120) H := by rw [eS120, ← cW_put (k := 221) (κ := 22) (i := i1) (g := (fun _ => (cv S 249 (((cv S 220 i1 0) : Int32).toNatClampNeg) 0))) rfl hD0_119 hp_119 hi_119, cput_221, show cn q 32 (cv S 249 (((cv S 220 i1 0) : Int32).toNatClampNeg) 0) = .ref (q 32 (((cv S 249 (((cv S 220 i1 0) : Int32).toNatClampNeg) 0) : Int32).toNatClampNeg)) from cn_pos hn_8]; exact hP
                      have hD : va_D A (cW cI cZ cP cF q S120) := by rw [eS120, ← cW_put (k := 221) (κ := 22) (i := i1) (g := (fun _ => (cv S 249 (((cv S 220 i1 0) : Int32).toNatClampNeg) 0))) rfl hD0_119 hp_119 hi_119, cput_221, show cn q 32 (cv S 249 (((cv S 220 i1 0) : Int32).toNatClampNeg) 0) = .ref (q 32 (((cv S 249 (((cv S 220 i1 0) : Int32).toNatClampNeg) 0) : Int32).toNatClampNeg)) from cn_pos hn_8]; exact hD
                      have hN : S120.2 = S.2 := by rw [eS120]; exact hN
                      have h := h S120 eS120
                      refine lv_aload_n hx hb dX7_guard_108 rfl (lv_at hl 4 rfl) ?_
                      refine lv_aload hx hb dX7_guard_109 (lv_at hl 1 rfl) ?_
                      refine lv_ifnull hx hb dX7_guard_111 ?_
                      refine lv_iload hx hb dX7_guard_114 (lv_at hl 0 rfl) ?_
                      refine lv_if_eq (tgt := 123) hx hb dX7_guard_116 (by decide) (fun _ => ?_) (fun c => absurd (by decide) c)
                      refine lv_aload hx hb dX7_guard_123 (lv_at hl 1 rfl) ?_
                      refine lv_iload hx hb dX7_guard_125 (lv_at hl 7 rfl) ?_
                      refine lv_iconst (v := 1) hx hb dX7_guard_127 (by decide) ?_
                      refine lv_iadd hx hb dX7_guard_128 ?_
                      have hi_121 := h.1
                      have h := h.2
                      obtain ⟨p_121, hp_121⟩ := cget_32 cI cZ cP cF q S120 hi_121
                      refine vp_callSi (va_Run.run (va_runV (As := [.int (a4 + 1)]) (rest := [.ref (q 22 i1)]) ⟨hx, hb, hml, hown, hts⟩ (zd_X1_startOf l D cI cZ cP cF q S120 (((cv S 249 (((cv S 220 i1 0) : Int32).toNatClampNeg) 0) : Int32).toNatClampNeg) (a4 + 1)  _ h) (cwV 1 hts zg_zd_X7_guard_zd_X1_startOf_212 rfl rfl rfl (by decide +kernel) ⟨Nat.le_of_ble_eq_true rfl, Nat.le_of_ble_eq_true rfl⟩) ⟨zCR, va_recv hK hP (ci := 1) (q0 := p_121) rfl hp_121, fun U hU hW => ⟨rfl, by rw [hU]; exact hP, hE.warm hW⟩⟩ rfl rfl hl.1 rfl (lv_room (Nat.le_of_ble_eq_true rfl)) dX7_guard_129 ⟨Nat.le_of_ble_eq_true rfl, Nat.le_of_ble_eq_true rfl⟩)) (fun r122 h => ?_)
                      have hi_123 := h.1
                      have h := h.2
                      obtain ⟨p_123, hp_123⟩ := cget_22 cI cZ cP cF q S120 hi_123
                      have hD0_123 := hD
                      refine va_put (D := D) (ci := 4) (v := .int r122) (ty := .int) (C := RX4) (T := TX4) (N := 5) hx hb hts (fun _ h => List.mem_cons_of_mem _ (List.mem_append_left _ (List.mem_append_left _ (List.mem_append_left _ (List.mem_append_left _ (List.mem_append_left _ (List.mem_append_right _ h))))))) tyX4 tyX4_ok nmX4 hown hK hP hD hS p_123 hp_123 rfl 2 (by decide) (hts (.fieldLink RX7 97 "TemplateForge$Frame" "place" "I") (List.mem_of_getElem? (i := 14) rfl)) (fun _ h9 => h9) rfl (by decide +kernel) rfl rfl (Nat.le_of_ble_eq_true rfl) dX7_guard_132 (fun H locs hP hD hS => ?_)
                      obtain ⟨S124, eS124⟩ : ∃ z, z = cs S120 222 i1 (fun _ => r122) := ⟨_, rfl⟩
                      have hP : va_P D vwCl (cW cI cZ cP cF q S124) H := by rw [eS124, ← cW_put (k := 222) (κ := 22) (i := i1) (g := (fun _ => r122)) rfl hD0_123 hp_123 hi_123, cput_222]; exact hP
                      have hD : va_D A (cW cI cZ cP cF q S124) := by rw [eS124, ← cW_put (k := 222) (κ := 22) (i := i1) (g := (fun _ => r122)) rfl hD0_123 hp_123 hi_123, cput_222]; exact hD
                      have hN : S124.2 = S.2 := by rw [eS124]; exact hN
                      have h := h S124 eS124
                      exact W.vret hx hb hr (fun t ht hW => ⟨⟨S124, rfl, h, by rw [ht]; exact hP, hD, hN⟩, hS.F ht⟩) hS.2.2 dX7_guard_135
                    · have h := h.2 c_118
                      refine lv_iconst (v := 1) hx hb dX7_guard_95 (by decide) ?_
                      refine lv_goto (tgt := 100) hx hb dX7_guard_96 (by decide) ?_
                      refine lv_istore (lv' := [(7, .int 1), (6, .ref (q 32 (((cv S 249 (((cv S 220 i1 0) : Int32).toNatClampNeg) 0) : Int32).toNatClampNeg))), (5, .ref (q 28 (((cv S 220 i1 0) : Int32).toNatClampNeg))), (0, .ref (q 12 0)), (1, .ref (q 22 i1)), (2, .int a2), (3, .int a3), (4, .int a4)]) hx hb dX7_guard_100 hl (by decide) rfl (fun ls hl => ?_)
                      refine lv_aload_n hx hb dX7_guard_102 rfl (lv_at hl 4 rfl) ?_
                      refine lv_aload hx hb dX7_guard_103 (lv_at hl 1 rfl) ?_
                      have hi_125 := h.1
                      have h := h.2
                      obtain ⟨p_125, hp_125⟩ := cget_22 cI cZ cP cF q S113 hi_125
                      have hD0_125 := hD
                      refine va_put (D := D) (ci := 4) (v := .ref (q 32 (((cv S 249 (((cv S 220 i1 0) : Int32).toNatClampNeg) 0) : Int32).toNatClampNeg))) (ty := .object "TemplateForge$Code") (C := RX4) (T := TX4) (N := 5) hx hb hts (fun _ h => List.mem_cons_of_mem _ (List.mem_append_left _ (List.mem_append_left _ (List.mem_append_left _ (List.mem_append_left _ (List.mem_append_left _ (List.mem_append_right _ h))))))) tyX4 tyX4_ok nmX4 hown hK hP hD hS p_125 hp_125 rfl 1 (by decide) (hts (.fieldLink RX7 94 "TemplateForge$Frame" "code" "LTemplateForge$Code;") (List.mem_of_getElem? (i := 15) rfl)) (fun _ h9 => h9) rfl (by decide +kernel) rfl rfl (Nat.le_of_ble_eq_true rfl) dX7_guard_105 (fun H locs hP hD hS => ?_)
                      obtain ⟨S126, eS126⟩ : ∃ z, z = cs S113 221 i1 (fun _ => (cv S 249 (((cv S 220 i1 0) : Int32).toNatClampNeg) 0)) := ⟨_, rfl⟩
                      have hP : va_P D vwCl (cW cI cZ cP cF q S126) H := by rw [eS126, ← cW_put (k := 221) (κ := 22) (i := i1) (g := (fun _ => (cv S 249 (((cv S 220 i1 0) : Int32).toNatClampNeg) 0))) rfl hD0_125 hp_125 hi_125, cput_221, show cn q 32 (cv S 249 (((cv S 220 i1 0) : Int32).toNatClampNeg) 0) = .ref (q 32 (((cv S 249 (((cv S 220 i1 0) : Int32).toNatClampNeg) 0) : Int32).toNatClampNeg)) from cn_pos hn_8]; exact hP
                      have hD : va_D A (cW cI cZ cP cF q S126) := by rw [eS126, ← cW_put (k := 221) (κ := 22) (i := i1) (g := (fun _ => (cv S 249 (((cv S 220 i1 0) : Int32).toNatClampNeg) 0))) rfl hD0_125 hp_125 hi_125, cput_221, show cn q 32 (cv S 249 (((cv S 220 i1 0) : Int32).toNatClampNeg) 0) = .ref (q 32 (((cv S 249 (((cv S 220 i1 0) : Int32).toNatClampNeg) 0) : Int32).toNatClampNeg)) from cn_pos hn_8]; exact hD
                      have hN : S126.2 = S.2 := by rw [eS126]; exact hN
                      have h := h S126 eS126
                      refine lv_aload_n hx hb dX7_guard_108 rfl (lv_at hl 4 rfl) ?_
                      refine lv_aload hx hb dX7_guard_109 (lv_at hl 1 rfl) ?_
                      refine lv_ifnull hx hb dX7_guard_111 ?_
                      refine lv_iload hx hb dX7_guard_114 (lv_at hl 0 rfl) ?_
                      refine lv_if_eq (tgt := 123) hx hb dX7_guard_116 (by decide) (fun c => absurd c (by decide)) (fun _ => ?_)
                      refine lv_iconst (v := 0) hx hb dX7_guard_119 (by decide) ?_
                      refine lv_goto (tgt := 132) hx hb dX7_guard_120 (by decide) ?_
                      have hi_127 := h.1
                      have h := h.2
                      obtain ⟨p_127, hp_127⟩ := cget_22 cI cZ cP cF q S126 hi_127
                      have hD0_127 := hD
                      refine va_put (D := D) (ci := 4) (v := .int 0) (ty := .int) (C := RX4) (T := TX4) (N := 5) hx hb hts (fun _ h => List.mem_cons_of_mem _ (List.mem_append_left _ (List.mem_append_left _ (List.mem_append_left _ (List.mem_append_left _ (List.mem_append_left _ (List.mem_append_right _ h))))))) tyX4 tyX4_ok nmX4 hown hK hP hD hS p_127 hp_127 rfl 2 (by decide) (hts (.fieldLink RX7 97 "TemplateForge$Frame" "place" "I") (List.mem_of_getElem? (i := 14) rfl)) (fun _ h9 => h9) rfl (by decide +kernel) rfl rfl (Nat.le_of_ble_eq_true rfl) dX7_guard_132 (fun H locs hP hD hS => ?_)
                      obtain ⟨S128, eS128⟩ : ∃ z, z = cs S126 222 i1 (fun _ => 0) := ⟨_, rfl⟩
                      have hP : va_P D vwCl (cW cI cZ cP cF q S128) H := by rw [eS128, ← cW_put (k := 222) (κ := 22) (i := i1) (g := (fun _ => 0)) rfl hD0_127 hp_127 hi_127, cput_222]; exact hP
                      have hD : va_D A (cW cI cZ cP cF q S128) := by rw [eS128, ← cW_put (k := 222) (κ := 22) (i := i1) (g := (fun _ => 0)) rfl hD0_127 hp_127 hi_127, cput_222]; exact hD
                      have hN : S128.2 = S.2 := by rw [eS128]; exact hN
                      have h := h S128 eS128
                      exact W.vret hx hb hr (fun t ht hW => ⟨⟨S128, rfl, h, by rw [ht]; exact hP, hD, hN⟩, hS.F ht⟩) hS.2.2 dX7_guard_135
    · have h := h.2 c_1
      exact W.vret hx hb hr (fun t ht hW => ⟨⟨S, rfl, h, by rw [ht]; exact hP, hD, hN⟩, hS.F ht⟩) hS.2.2 dX7_guard_4
  exact key _ _ hP va_S.rf

def wp_X7_turnThatMayTrap (S : CST) (i1 : Nat) (a2 : Int32) (a3 : Int32) (a4 : Int32) (a5 : Int32) (a6 : Int32) (Post : CST → Prop) : Prop :=
  ((a2 : Int32).toInt < 14 ∨ 16 < (a2 : Int32).toInt → (((¬ ((a2 : Int32) = 5)) → (cin S 22 i1 ∧ (wp_X4_valueOf S i1 a4 (fun r3 => cin S 22 i1 ∧ (wp_X4_valueOf S i1 a5 (fun r5 => wp_X11_reckoned a2 r3 r5 (fun r6 => cin S 22 i1 ∧ (wp_X4_put S i1 a3 r6 (fun S8 => Post S8))))))))) ∧ (((a2 : Int32) = 5) → (cin S 22 i1 ∧ (wp_X4_valueOf S i1 a5 (fun r10 => ((¬ ((r10 : Int32) = 0)) → (cin S 22 i1 ∧ (wp_X4_valueOf S i1 a4 (fun r13 => cin S 22 i1 ∧ (wp_X4_valueOf S i1 a5 (fun r15 => wp_X11_reckoned a2 r13 r15 (fun r16 => cin S 22 i1 ∧ (wp_X4_put S i1 a3 r16 (fun S18 => Post S18))))))))) ∧ (((r10 : Int32) = 0) → (wp_X7_endByTrap S i1 1 a6 (fun S20 => Post S20))))))))) ∧ (a2 = 14 → (cin S 22 i1 ∧ (wp_X4_valueOf S i1 a4 (fun r22 => wp_X7_newRow S i1 a3 r22 a6 (fun S24 => Post S24))))) ∧ (a2 = 15 → (cin S 22 i1 ∧ (wp_X4_valueOf S i1 a5 (fun r26 => wp_X7_isThere S i1 a4 r26 a6 (fun S28 r28 => (((r28 : Int32) = 0) → (Post S28)) ∧ ((¬ ((r28 : Int32) = 0)) → (cin S28 22 i1 ∧ (wp_X4_valueOf S28 i1 a5 (fun r32 => wp_X2_itemOf S28 a4 r32 (fun r34 => cin S28 22 i1 ∧ (wp_X4_put S28 i1 a3 r34 (fun S36 => Post S36)))))))))))) ∧ (a2 = 16 → (cin S 22 i1 ∧ (wp_X4_valueOf S i1 a4 (fun r38 => wp_X7_isThere S i1 a3 r38 a6 (fun S40 r40 => (((r40 : Int32) = 0) → (Post S40)) ∧ ((¬ ((r40 : Int32) = 0)) → (cin S40 22 i1 ∧ (wp_X4_valueOf S40 i1 a4 (fun r44 => cin S40 22 i1 ∧ (wp_X4_valueOf S40 i1 a5 (fun r46 => wp_X2_putItem S40 a3 r44 r46 (fun S48 => Post S48))))))))))))
def zw_zd_X7_turnThatMayTrap_w0 : List Cond := [.code yX4_valueOf cX4_valueOf 2 (some .int), .fieldLink RX4 9 "TemplateForge$Frame" "registers" "[I", .methodLink RX7 162 yX4_valueOf, .instanceMethod yX4_valueOf, .selects RX4 yX4_valueOf yX4_valueOf, .initialized RX4, .code yX11_reckoned cX11_reckoned 3 (some .int), .static yX11_reckoned, .initialized RX11, .code yX4_put cX4_put 3 none, .methodLink RX7 107 yX4_put, .instanceMethod yX4_put, .selects RX4 yX4_put yX4_put, .code yX7_endByTrap cX7_endByTrap 4 none, .fieldLink RX7 53 "TemplateForge$Machine" "ending" "I", .fieldLink RX7 12 "TemplateForge$Machine" "tally" "LTemplateForge$Tally;"]
def zw_zd_X7_turnThatMayTrap_w1 : List Cond := [.fieldLink RX7 84 "TemplateForge$Frame" "program" "LTemplateForge$Program;", .fieldLink RX7 244 "TemplateForge$Program" "number" "I", .fieldLink RX7 49 "TemplateForge$Machine" "open" "I", .code yX10_noteTrap cX10_noteTrap 5 none, .fieldLink RX10 9 "TemplateForge$Tally" "trap" "[I", .methodLink RX7 247 yX10_noteTrap, .instanceMethod yX10_noteTrap, .selects RX10 yX10_noteTrap yX10_noteTrap, .initialized RX10, .methodLink RX7 205 yX7_endByTrap, .instanceMethod yX7_endByTrap, .selects RX7 yX7_endByTrap yX7_endByTrap, .initialized RX7, .code yX7_newRow cX7_newRow 5 none, .fieldLink RX7 32 "TemplateForge$Machine" "data" "LTemplateForge$Data;", .code yX2_renew cX2_renew 3 none]
def zw_zd_X7_turnThatMayTrap_w2 : List Cond := [.fieldLink RX2 15 "TemplateForge$Data" "lengths" "[I", .fieldLink RX2 18 "TemplateForge$Data" "items" "[I", .code yJ7_fill_fda19 cJ7_fill_fda19 5 none, .code yJ7_rangeCheck_23922 cJ7_rangeCheck_23922 3 none, .methodLink RJ7 13 yJ7_rangeCheck_23922, .static yJ7_rangeCheck_23922, .initialized RJ7, .methodLink RX2 27 yJ7_fill_fda19, .static yJ7_fill_fda19, .methodLink RX7 238 yX2_renew, .instanceMethod yX2_renew, .selects RX2 yX2_renew yX2_renew, .initialized RX2, .methodLink RX7 190 yX7_newRow, .instanceMethod yX7_newRow, .selects RX7 yX7_newRow yX7_newRow]
def zw_zd_X7_turnThatMayTrap_w3 : List Cond := [.code yX7_isThere cX7_isThere 5 (some .boolean), .code yX2_lengthOf cX2_lengthOf 2 (some .int), .methodLink RX7 241 yX2_lengthOf, .instanceMethod yX2_lengthOf, .selects RX2 yX2_lengthOf yX2_lengthOf, .methodLink RX7 193 yX7_isThere, .instanceMethod yX7_isThere, .selects RX7 yX7_isThere yX7_isThere, .code yX2_itemOf cX2_itemOf 3 (some .int), .methodLink RX2 30 yX2_lengthOf, .methodLink RX7 197 yX2_itemOf, .instanceMethod yX2_itemOf, .selects RX2 yX2_itemOf yX2_itemOf, .code yX2_putItem cX2_putItem 4 none, .methodLink RX7 201 yX2_putItem, .instanceMethod yX2_putItem]
def zw_zd_X7_turnThatMayTrap_w4 : List Cond := [.selects RX2 yX2_putItem yX2_putItem]
def zw_zd_X7_turnThatMayTrap : List Cond := .code yX7_turnThatMayTrap cX7_turnThatMayTrap 7 none :: ((zw_zd_X7_turnThatMayTrap_w0 ++ (zw_zd_X7_turnThatMayTrap_w1 ++ (zw_zd_X7_turnThatMayTrap_w2 ++ (zw_zd_X7_turnThatMayTrap_w3 ++ (zw_zd_X7_turnThatMayTrap_w4))))) ++ wsX40 ++ wsX70 ++ wsX80 ++ wsX100 ++ wsX20)
set_option maxRecDepth 100000 in
theorem zg_zd_X7_turnThatMayTrap_zd_X4_valueOf_162_a : GoodIn zw_zd_X7_turnThatMayTrap [.methodLink RX7 162 yX4_valueOf, .instanceMethod yX4_valueOf, .selects RX4 yX4_valueOf yX4_valueOf, .initialized RX4] := goodIn_r _ [3, 4, 5, 6] rfl (by decide +kernel)
set_option maxRecDepth 100000 in
theorem zg_zd_X7_turnThatMayTrap_zd_X4_valueOf_162_c : GoodIn zw_zd_X7_turnThatMayTrap [.code yX4_valueOf cX4_valueOf 2 (some .int)] := goodIn_r _ [1] rfl (by decide +kernel)
set_option maxRecDepth 100000 in
theorem zg_zd_X7_turnThatMayTrap_zd_X4_valueOf_162_0 : GoodIn zw_zd_X7_turnThatMayTrap zw_zd_X4_valueOf_w0 := goodIn_r _ [2] rfl (by decide +kernel)
theorem zg_zd_X7_turnThatMayTrap_zd_X4_valueOf_162 : GoodIn zw_zd_X7_turnThatMayTrap (wsV RX7 162 RX4 yX4_valueOf zw_zd_X4_valueOf) := goodIn_app zg_zd_X7_turnThatMayTrap_zd_X4_valueOf_162_a (goodIn_ca (a := (zw_zd_X4_valueOf_w0)) (show GoodIn zw_zd_X7_turnThatMayTrap (.code yX4_valueOf cX4_valueOf 2 (some .int) :: (zw_zd_X4_valueOf_w0)) from goodIn_app zg_zd_X7_turnThatMayTrap_zd_X4_valueOf_162_c (zg_zd_X7_turnThatMayTrap_zd_X4_valueOf_162_0)) (fun w h => ⟨(fun _ h => List.mem_cons_of_mem _ (List.mem_append_left _ (List.mem_append_left _ (List.mem_append_left _ (List.mem_append_left _ (List.mem_append_right _ h)))))) w h, good_of_word (List.all_eq_true.mp zgw_X4 w h)⟩))
set_option maxRecDepth 100000 in
theorem zg_zd_X7_turnThatMayTrap_zd_X11_reckoned_208_c : GoodIn zw_zd_X7_turnThatMayTrap [.code yX11_reckoned cX11_reckoned 3 (some .int)] := goodIn_r _ [7] rfl (by decide +kernel)
theorem zg_zd_X7_turnThatMayTrap_zd_X11_reckoned_208 : GoodIn zw_zd_X7_turnThatMayTrap zw_zd_X11_reckoned := (show GoodIn zw_zd_X7_turnThatMayTrap (.code yX11_reckoned cX11_reckoned 3 (some .int) :: (([] : List Cond))) from zg_zd_X7_turnThatMayTrap_zd_X11_reckoned_208_c)
set_option maxRecDepth 100000 in
theorem zg_zd_X7_turnThatMayTrap_zd_X4_put_107_a : GoodIn zw_zd_X7_turnThatMayTrap [.methodLink RX7 107 yX4_put, .instanceMethod yX4_put, .selects RX4 yX4_put yX4_put, .initialized RX4] := goodIn_r _ [11, 12, 13, 6] rfl (by decide +kernel)
set_option maxRecDepth 100000 in
theorem zg_zd_X7_turnThatMayTrap_zd_X4_put_107_c : GoodIn zw_zd_X7_turnThatMayTrap [.code yX4_put cX4_put 3 none] := goodIn_r _ [10] rfl (by decide +kernel)
set_option maxRecDepth 100000 in
theorem zg_zd_X7_turnThatMayTrap_zd_X4_put_107_0 : GoodIn zw_zd_X7_turnThatMayTrap zw_zd_X4_put_w0 := goodIn_r _ [2] rfl (by decide +kernel)
theorem zg_zd_X7_turnThatMayTrap_zd_X4_put_107 : GoodIn zw_zd_X7_turnThatMayTrap (wsV RX7 107 RX4 yX4_put zw_zd_X4_put) := goodIn_app zg_zd_X7_turnThatMayTrap_zd_X4_put_107_a (goodIn_ca (a := (zw_zd_X4_put_w0)) (show GoodIn zw_zd_X7_turnThatMayTrap (.code yX4_put cX4_put 3 none :: (zw_zd_X4_put_w0)) from goodIn_app zg_zd_X7_turnThatMayTrap_zd_X4_put_107_c (zg_zd_X7_turnThatMayTrap_zd_X4_put_107_0)) (fun w h => ⟨(fun _ h => List.mem_cons_of_mem _ (List.mem_append_left _ (List.mem_append_left _ (List.mem_append_left _ (List.mem_append_left _ (List.mem_append_right _ h)))))) w h, good_of_word (List.all_eq_true.mp zgw_X4 w h)⟩))
set_option maxRecDepth 100000 in
theorem zg_zd_X7_turnThatMayTrap_zd_X7_endByTrap_205_a : GoodIn zw_zd_X7_turnThatMayTrap [.methodLink RX7 205 yX7_endByTrap, .instanceMethod yX7_endByTrap, .selects RX7 yX7_endByTrap yX7_endByTrap, .initialized RX7] := goodIn_r _ [26, 27, 28, 29] rfl (by decide +kernel)
set_option maxRecDepth 100000 in
theorem zg_zd_X7_turnThatMayTrap_zd_X7_endByTrap_205_c : GoodIn zw_zd_X7_turnThatMayTrap [.code yX7_endByTrap cX7_endByTrap 4 none] := goodIn_r _ [14] rfl (by decide +kernel)
set_option maxRecDepth 100000 in
theorem zg_zd_X7_turnThatMayTrap_zd_X7_endByTrap_205_0 : GoodIn zw_zd_X7_turnThatMayTrap zw_zd_X7_endByTrap_w0 := goodIn_r _ [15, 16, 17, 18, 19, 20, 21, 22, 23, 24, 25] rfl (by decide +kernel)
theorem zg_zd_X7_turnThatMayTrap_zd_X7_endByTrap_205 : GoodIn zw_zd_X7_turnThatMayTrap (wsV RX7 205 RX7 yX7_endByTrap zw_zd_X7_endByTrap) := goodIn_app zg_zd_X7_turnThatMayTrap_zd_X7_endByTrap_205_a (goodIn_ca (a := ((((zw_zd_X7_endByTrap_w0) ++ wsX70) ++ wsX40) ++ wsX80)) (goodIn_ca (a := (((zw_zd_X7_endByTrap_w0) ++ wsX70) ++ wsX40)) (goodIn_ca (a := ((zw_zd_X7_endByTrap_w0) ++ wsX70)) (goodIn_ca (a := (zw_zd_X7_endByTrap_w0)) (show GoodIn zw_zd_X7_turnThatMayTrap (.code yX7_endByTrap cX7_endByTrap 4 none :: (zw_zd_X7_endByTrap_w0)) from goodIn_app zg_zd_X7_turnThatMayTrap_zd_X7_endByTrap_205_c (zg_zd_X7_turnThatMayTrap_zd_X7_endByTrap_205_0)) (fun w h => ⟨(fun _ h => List.mem_cons_of_mem _ (List.mem_append_left _ (List.mem_append_left _ (List.mem_append_left _ (List.mem_append_right _ h))))) w h, good_of_word (List.all_eq_true.mp zgw_X7 w h)⟩)) (fun w h => ⟨(fun _ h => List.mem_cons_of_mem _ (List.mem_append_left _ (List.mem_append_left _ (List.mem_append_left _ (List.mem_append_left _ (List.mem_append_right _ h)))))) w h, good_of_word (List.all_eq_true.mp zgw_X4 w h)⟩)) (fun w h => ⟨(fun _ h => List.mem_cons_of_mem _ (List.mem_append_left _ (List.mem_append_left _ (List.mem_append_right _ h)))) w h, good_of_word (List.all_eq_true.mp zgw_X8 w h)⟩)) (fun w h => ⟨(fun _ h => List.mem_cons_of_mem _ (List.mem_append_left _ (List.mem_append_right _ h))) w h, good_of_word (List.all_eq_true.mp zgw_X10 w h)⟩))
set_option maxRecDepth 100000 in
theorem zg_zd_X7_turnThatMayTrap_zd_X7_newRow_190_a : GoodIn zw_zd_X7_turnThatMayTrap [.methodLink RX7 190 yX7_newRow, .instanceMethod yX7_newRow, .selects RX7 yX7_newRow yX7_newRow, .initialized RX7] := goodIn_r _ [46, 47, 48, 29] rfl (by decide +kernel)
set_option maxRecDepth 100000 in
theorem zg_zd_X7_turnThatMayTrap_zd_X7_newRow_190_c : GoodIn zw_zd_X7_turnThatMayTrap [.code yX7_newRow cX7_newRow 5 none] := goodIn_r _ [30] rfl (by decide +kernel)
set_option maxRecDepth 100000 in
theorem zg_zd_X7_turnThatMayTrap_zd_X7_newRow_190_0 : GoodIn zw_zd_X7_turnThatMayTrap zw_zd_X7_newRow_w0 := goodIn_r _ [31, 32, 33, 34, 35, 36, 37, 38, 39, 40, 41, 42, 43, 44, 45, 14] rfl (by decide +kernel)
set_option maxRecDepth 100000 in
theorem zg_zd_X7_turnThatMayTrap_zd_X7_newRow_190_1 : GoodIn zw_zd_X7_turnThatMayTrap zw_zd_X7_newRow_w1 := goodIn_r _ [15, 16, 17, 18, 19, 20, 21, 22, 23, 24, 25, 26, 27, 28, 29] rfl (by decide +kernel)
theorem zg_zd_X7_turnThatMayTrap_zd_X7_newRow_190 : GoodIn zw_zd_X7_turnThatMayTrap (wsV RX7 190 RX7 yX7_newRow zw_zd_X7_newRow) := goodIn_app zg_zd_X7_turnThatMayTrap_zd_X7_newRow_190_a (goodIn_ca (a := (((((zw_zd_X7_newRow_w0 ++ (zw_zd_X7_newRow_w1)) ++ wsX70) ++ wsX20) ++ wsX40) ++ wsX80)) (goodIn_ca (a := ((((zw_zd_X7_newRow_w0 ++ (zw_zd_X7_newRow_w1)) ++ wsX70) ++ wsX20) ++ wsX40)) (goodIn_ca (a := (((zw_zd_X7_newRow_w0 ++ (zw_zd_X7_newRow_w1)) ++ wsX70) ++ wsX20)) (goodIn_ca (a := ((zw_zd_X7_newRow_w0 ++ (zw_zd_X7_newRow_w1)) ++ wsX70)) (goodIn_ca (a := (zw_zd_X7_newRow_w0 ++ (zw_zd_X7_newRow_w1))) (show GoodIn zw_zd_X7_turnThatMayTrap (.code yX7_newRow cX7_newRow 5 none :: (zw_zd_X7_newRow_w0 ++ (zw_zd_X7_newRow_w1))) from goodIn_app zg_zd_X7_turnThatMayTrap_zd_X7_newRow_190_c (goodIn_app zg_zd_X7_turnThatMayTrap_zd_X7_newRow_190_0 (zg_zd_X7_turnThatMayTrap_zd_X7_newRow_190_1))) (fun w h => ⟨(fun _ h => List.mem_cons_of_mem _ (List.mem_append_left _ (List.mem_append_left _ (List.mem_append_left _ (List.mem_append_right _ h))))) w h, good_of_word (List.all_eq_true.mp zgw_X7 w h)⟩)) (fun w h => ⟨(fun _ h => List.mem_cons_of_mem _ (List.mem_append_right _ h)) w h, good_of_word (List.all_eq_true.mp zgw_X2 w h)⟩)) (fun w h => ⟨(fun _ h => List.mem_cons_of_mem _ (List.mem_append_left _ (List.mem_append_left _ (List.mem_append_left _ (List.mem_append_left _ (List.mem_append_right _ h)))))) w h, good_of_word (List.all_eq_true.mp zgw_X4 w h)⟩)) (fun w h => ⟨(fun _ h => List.mem_cons_of_mem _ (List.mem_append_left _ (List.mem_append_left _ (List.mem_append_right _ h)))) w h, good_of_word (List.all_eq_true.mp zgw_X8 w h)⟩)) (fun w h => ⟨(fun _ h => List.mem_cons_of_mem _ (List.mem_append_left _ (List.mem_append_right _ h))) w h, good_of_word (List.all_eq_true.mp zgw_X10 w h)⟩))
set_option maxRecDepth 100000 in
theorem zg_zd_X7_turnThatMayTrap_zd_X7_isThere_193_a : GoodIn zw_zd_X7_turnThatMayTrap [.methodLink RX7 193 yX7_isThere, .instanceMethod yX7_isThere, .selects RX7 yX7_isThere yX7_isThere, .initialized RX7] := goodIn_r _ [54, 55, 56, 29] rfl (by decide +kernel)
set_option maxRecDepth 100000 in
theorem zg_zd_X7_turnThatMayTrap_zd_X7_isThere_193_c : GoodIn zw_zd_X7_turnThatMayTrap [.code yX7_isThere cX7_isThere 5 (some .boolean)] := goodIn_r _ [49] rfl (by decide +kernel)
set_option maxRecDepth 100000 in
theorem zg_zd_X7_turnThatMayTrap_zd_X7_isThere_193_0 : GoodIn zw_zd_X7_turnThatMayTrap zw_zd_X7_isThere_w0 := goodIn_r _ [31, 50, 33, 51, 52, 53, 45, 14, 15, 16, 17, 18, 19, 20, 21, 22] rfl (by decide +kernel)
set_option maxRecDepth 100000 in
theorem zg_zd_X7_turnThatMayTrap_zd_X7_isThere_193_1 : GoodIn zw_zd_X7_turnThatMayTrap zw_zd_X7_isThere_w1 := goodIn_r _ [23, 24, 25, 26, 27, 28, 29] rfl (by decide +kernel)
theorem zg_zd_X7_turnThatMayTrap_zd_X7_isThere_193 : GoodIn zw_zd_X7_turnThatMayTrap (wsV RX7 193 RX7 yX7_isThere zw_zd_X7_isThere) := goodIn_app zg_zd_X7_turnThatMayTrap_zd_X7_isThere_193_a (goodIn_ca (a := (((((zw_zd_X7_isThere_w0 ++ (zw_zd_X7_isThere_w1)) ++ wsX70) ++ wsX20) ++ wsX40) ++ wsX80)) (goodIn_ca (a := ((((zw_zd_X7_isThere_w0 ++ (zw_zd_X7_isThere_w1)) ++ wsX70) ++ wsX20) ++ wsX40)) (goodIn_ca (a := (((zw_zd_X7_isThere_w0 ++ (zw_zd_X7_isThere_w1)) ++ wsX70) ++ wsX20)) (goodIn_ca (a := ((zw_zd_X7_isThere_w0 ++ (zw_zd_X7_isThere_w1)) ++ wsX70)) (goodIn_ca (a := (zw_zd_X7_isThere_w0 ++ (zw_zd_X7_isThere_w1))) (show GoodIn zw_zd_X7_turnThatMayTrap (.code yX7_isThere cX7_isThere 5 (some .boolean) :: (zw_zd_X7_isThere_w0 ++ (zw_zd_X7_isThere_w1))) from goodIn_app zg_zd_X7_turnThatMayTrap_zd_X7_isThere_193_c (goodIn_app zg_zd_X7_turnThatMayTrap_zd_X7_isThere_193_0 (zg_zd_X7_turnThatMayTrap_zd_X7_isThere_193_1))) (fun w h => ⟨(fun _ h => List.mem_cons_of_mem _ (List.mem_append_left _ (List.mem_append_left _ (List.mem_append_left _ (List.mem_append_right _ h))))) w h, good_of_word (List.all_eq_true.mp zgw_X7 w h)⟩)) (fun w h => ⟨(fun _ h => List.mem_cons_of_mem _ (List.mem_append_right _ h)) w h, good_of_word (List.all_eq_true.mp zgw_X2 w h)⟩)) (fun w h => ⟨(fun _ h => List.mem_cons_of_mem _ (List.mem_append_left _ (List.mem_append_left _ (List.mem_append_left _ (List.mem_append_left _ (List.mem_append_right _ h)))))) w h, good_of_word (List.all_eq_true.mp zgw_X4 w h)⟩)) (fun w h => ⟨(fun _ h => List.mem_cons_of_mem _ (List.mem_append_left _ (List.mem_append_left _ (List.mem_append_right _ h)))) w h, good_of_word (List.all_eq_true.mp zgw_X8 w h)⟩)) (fun w h => ⟨(fun _ h => List.mem_cons_of_mem _ (List.mem_append_left _ (List.mem_append_right _ h))) w h, good_of_word (List.all_eq_true.mp zgw_X10 w h)⟩))
set_option maxRecDepth 100000 in
theorem zg_zd_X7_turnThatMayTrap_zd_X2_itemOf_197_a : GoodIn zw_zd_X7_turnThatMayTrap [.methodLink RX7 197 yX2_itemOf, .instanceMethod yX2_itemOf, .selects RX2 yX2_itemOf yX2_itemOf, .initialized RX2] := goodIn_r _ [59, 60, 61, 45] rfl (by decide +kernel)
set_option maxRecDepth 100000 in
theorem zg_zd_X7_turnThatMayTrap_zd_X2_itemOf_197_c : GoodIn zw_zd_X7_turnThatMayTrap [.code yX2_itemOf cX2_itemOf 3 (some .int)] := goodIn_r _ [57] rfl (by decide +kernel)
set_option maxRecDepth 100000 in
theorem zg_zd_X7_turnThatMayTrap_zd_X2_itemOf_197_0 : GoodIn zw_zd_X7_turnThatMayTrap zw_zd_X2_itemOf_w0 := goodIn_r _ [50, 33, 58, 52, 53, 45, 34] rfl (by decide +kernel)
theorem zg_zd_X7_turnThatMayTrap_zd_X2_itemOf_197 : GoodIn zw_zd_X7_turnThatMayTrap (wsV RX7 197 RX2 yX2_itemOf zw_zd_X2_itemOf) := goodIn_app zg_zd_X7_turnThatMayTrap_zd_X2_itemOf_197_a (goodIn_ca (a := (zw_zd_X2_itemOf_w0)) (show GoodIn zw_zd_X7_turnThatMayTrap (.code yX2_itemOf cX2_itemOf 3 (some .int) :: (zw_zd_X2_itemOf_w0)) from goodIn_app zg_zd_X7_turnThatMayTrap_zd_X2_itemOf_197_c (zg_zd_X7_turnThatMayTrap_zd_X2_itemOf_197_0)) (fun w h => ⟨(fun _ h => List.mem_cons_of_mem _ (List.mem_append_right _ h)) w h, good_of_word (List.all_eq_true.mp zgw_X2 w h)⟩))
set_option maxRecDepth 100000 in
theorem zg_zd_X7_turnThatMayTrap_zd_X2_putItem_201_a : GoodIn zw_zd_X7_turnThatMayTrap [.methodLink RX7 201 yX2_putItem, .instanceMethod yX2_putItem, .selects RX2 yX2_putItem yX2_putItem, .initialized RX2] := goodIn_r _ [63, 64, 65, 45] rfl (by decide +kernel)
set_option maxRecDepth 100000 in
theorem zg_zd_X7_turnThatMayTrap_zd_X2_putItem_201_c : GoodIn zw_zd_X7_turnThatMayTrap [.code yX2_putItem cX2_putItem 4 none] := goodIn_r _ [62] rfl (by decide +kernel)
set_option maxRecDepth 100000 in
theorem zg_zd_X7_turnThatMayTrap_zd_X2_putItem_201_0 : GoodIn zw_zd_X7_turnThatMayTrap zw_zd_X2_putItem_w0 := goodIn_r _ [50, 33, 58, 52, 53, 45, 34] rfl (by decide +kernel)
theorem zg_zd_X7_turnThatMayTrap_zd_X2_putItem_201 : GoodIn zw_zd_X7_turnThatMayTrap (wsV RX7 201 RX2 yX2_putItem zw_zd_X2_putItem) := goodIn_app zg_zd_X7_turnThatMayTrap_zd_X2_putItem_201_a (goodIn_ca (a := (zw_zd_X2_putItem_w0)) (show GoodIn zw_zd_X7_turnThatMayTrap (.code yX2_putItem cX2_putItem 4 none :: (zw_zd_X2_putItem_w0)) from goodIn_app zg_zd_X7_turnThatMayTrap_zd_X2_putItem_201_c (zg_zd_X7_turnThatMayTrap_zd_X2_putItem_201_0)) (fun w h => ⟨(fun _ h => List.mem_cons_of_mem _ (List.mem_append_right _ h)) w h, good_of_word (List.all_eq_true.mp zgw_X2 w h)⟩))
set_option maxHeartbeats 16000000 in
set_option maxRecDepth 100000 in
theorem zd_X7_turnThatMayTrap (l : Launch) (D : va_G) (cI cZ cP cF : Nat) (q : Nat → Nat → Nat) (S : CST) (i1 : Nat) (a2 : Int32) (a3 : Int32) (a4 : Int32) (a5 : Int32) (a6 : Int32) (sz : Nat) (Post : CST → Prop) (h : wp_X7_turnThatMayTrap S i1 a2 a3 a4 a5 a6 Post) : Met l yX7_turnThatMayTrap zw_zd_X7_turnThatMayTrap ({ frames := 4, cells := 0, slots := 0, locals := 92 }) (va_Pc [.ref (q 12 0), .ref (q 22 i1), .int a2, .int a3, .int a4, .int a5, .int a6] (fun U => U.heap.size = sz ∧ va_P D vwCl (cW cI cZ cP cF q S) U.heap ∧ zF D cI cZ cP cF U ∧ va_D (fun _ => True) (cW cI cZ cP cF q S))) (va_Qv (fun S' => Post S') (fun (S' : CST) t => va_P D vwCl (cW cI cZ cP cF q S') t.heap ∧ va_D (va_A (cW cI cZ cP cF q S) sz) (cW cI cZ cP cF q S') ∧ S'.2 = S.2) (va_A (cW cI cZ cP cF q S) sz)) 0 0 (va_A (cW cI cZ cP cF q S) sz) := by
  unfold wp_X7_turnThatMayTrap at h
  refine Met.ofW (cc := cX7_turnThatMayTrap) (maxL := 7) (ret := none) (by decide) rfl ?_
  intro p e s m args below meth c s₁ B hml hv
  obtain ⟨rfl, hsz, hP, hE, hD0⟩ := hv
  have hx := B.exec
  have hb := B.bytes
  have hr := B.returns
  have hts := atoms_spec (ws := zw_zd_X7_turnThatMayTrap) B.pre
  have hown : s.vm.findClass RX7 = some m.cls := findClass_of_methodNamed B.named
  have hlocks := B.notSynchronized
  have hK := hE.k
  subst hsz
  have hD := hD0.self (sz := s.heap.size)
  generalize hAe : va_A (cW cI cZ cP cF q S) s.heap.size = A at hD ⊢
  have hA : ∀ q : Nat, s.heap.size ≤ q → A q := fun q h => by rw [← hAe]; exact Or.inr h
  have hN : S.2 = S.2 := rfl
  have hl := lv_entry ([.ref (q 12 0), .ref (q 22 i1), .int a2, .int a3, .int a4, .int a5, .int a6]) (n := 7) (Nat.le_of_ble_eq_true rfl)
  rw [lg_entry_eq]
  generalize (lg_sl ([.ref (q 12 0), .ref (q 22 i1), .int a2, .int a3, .int a4, .int a5, .int a6]) ++ List.replicate (7 - (lg_sl ([.ref (q 12 0), .ref (q 22 i1), .int a2, .int a3, .int a4, .int a5, .int a6])).length) Slot.unset).toArray = ls at hl ⊢
  have hl : lv_has ls 7 [(0, .ref (q 12 0)), (1, .ref (q 22 i1)), (2, .int a2), (3, .int a3), (4, .int a4), (5, .int a5), (6, .int a6)] := hl
  have key : ∀ (H : Heap) (locs : List Loc), va_P D vwCl (cW cI cZ cP cF q S) H → va_S A s.heap H locs → W p l e (headSpec zw_zd_X7_turnThatMayTrap ({ frames := 4, cells := 0, slots := 0, locals := 92 })).room s m ([.ref (q 12 0), .ref (q 22 i1), .int a2, .int a3, .int a4, .int a5, .int a6] : List Value).toArray below meth c H locs 0 0 (MQ below (va_Qv (fun S' => Post S') (fun (S' : CST) t => va_P D vwCl (cW cI cZ cP cF q S') t.heap ∧ va_D A (cW cI cZ cP cF q S') ∧ S'.2 = S.2) A) ([.ref (q 12 0), .ref (q 22 i1), .int a2, .int a3, .int a4, .int a5, .int a6] : List Value).toArray s 0 0 A) (F0 m 0 ls []) := by
    intro H locs hP hS
    refine lv_iload_n hx hb dX7_turnThatMayTrap_0 rfl (lv_at hl 2 rfl) ?_
    rcases zt_14_16 a2 with h_out | h_in | h_in | h_in
    · have h := h.1 h_out
      refine lv_tableOut (tgt := 126) hx hb dX7_turnThatMayTrap_1 h_out (by decide) ?_
      refine lv_iload_n hx hb dX7_turnThatMayTrap_126 rfl (lv_at hl 2 rfl) ?_
      refine lv_iconst (v := 5) hx hb dX7_turnThatMayTrap_127 (by decide) ?_
      refine lv_icmp_ne (tgt := 151) hx hb dX7_turnThatMayTrap_128 (by decide) (fun c_1 => ?_) (fun c_1 => ?_)
      · have h := h.1 c_1
        refine lv_aload_n hx hb dX7_turnThatMayTrap_151 rfl (lv_at hl 1 rfl) ?_
        refine lv_iload_n hx hb dX7_turnThatMayTrap_152 rfl (lv_at hl 3 rfl) ?_
        refine lv_iload_n hx hb dX7_turnThatMayTrap_153 rfl (lv_at hl 2 rfl) ?_
        refine lv_aload_n hx hb dX7_turnThatMayTrap_154 rfl (lv_at hl 1 rfl) ?_
        refine lv_iload hx hb dX7_turnThatMayTrap_155 (lv_at hl 4 rfl) ?_
        have hi_2 := h.1
        have h := h.2
        obtain ⟨p_2, hp_2⟩ := cget_22 cI cZ cP cF q S hi_2
        refine vp_callSi (va_Run.run (va_runV (As := [.int a4]) (rest := [.int a2, .int a3, .ref (q 22 i1)]) ⟨hx, hb, hml, hown, hts⟩ (zd_X4_valueOf l D cI cZ cP cF q S i1 a4  _ h) (cwV 1 hts zg_zd_X7_turnThatMayTrap_zd_X4_valueOf_162 rfl rfl rfl (by decide +kernel) ⟨Nat.le_of_ble_eq_true rfl, Nat.le_of_ble_eq_true rfl⟩) ⟨zCR, va_recv hK hP (ci := 4) (q0 := p_2) rfl hp_2, fun U hU hW => ⟨rfl, by rw [hU]; exact hP, hE.warm hW⟩⟩ rfl rfl hl.1 rfl (lv_room (Nat.le_of_ble_eq_true rfl)) dX7_turnThatMayTrap_157 ⟨Nat.le_of_ble_eq_true rfl, Nat.le_of_ble_eq_true rfl⟩)) (fun r3 h => ?_)
        refine lv_aload_n hx hb dX7_turnThatMayTrap_160 rfl (lv_at hl 1 rfl) ?_
        refine lv_iload hx hb dX7_turnThatMayTrap_161 (lv_at hl 5 rfl) ?_
        have hi_4 := h.1
        have h := h.2
        obtain ⟨p_4, hp_4⟩ := cget_22 cI cZ cP cF q S hi_4
        refine vp_callSi (va_Run.run (va_runV (As := [.int a5]) (rest := [.int r3, .int a2, .int a3, .ref (q 22 i1)]) ⟨hx, hb, hml, hown, hts⟩ (zd_X4_valueOf l D cI cZ cP cF q S i1 a5  _ h) (cwV 1 hts zg_zd_X7_turnThatMayTrap_zd_X4_valueOf_162 rfl rfl rfl (by decide +kernel) ⟨Nat.le_of_ble_eq_true rfl, Nat.le_of_ble_eq_true rfl⟩) ⟨zCR, va_recv hK hP (ci := 4) (q0 := p_4) rfl hp_4, fun U hU hW => ⟨rfl, by rw [hU]; exact hP, hE.warm hW⟩⟩ rfl rfl hl.1 rfl (lv_room (Nat.le_of_ble_eq_true rfl)) dX7_turnThatMayTrap_163 ⟨Nat.le_of_ble_eq_true rfl, Nat.le_of_ble_eq_true rfl⟩)) (fun r5 h => ?_)
        have hP0 : va_P D vwCl [] H := fun k q h => by simp at h
        refine vp_callSi (va_Run.run (va_runSN (As := [.int a2, .int r3, .int r5]) (rest := [.int a3, .ref (q 22 i1)]) ⟨hx, hb, hml, hown, hts⟩ (zd_X11_reckoned l D cI cZ cP cF a2 r3 r5  _ h) ⟨va_cnB 3 hts zg_zd_X7_turnThatMayTrap_zd_X11_reckoned_208 rfl rfl rfl hE.nX7_208 (hts (.initialized RX11) (List.mem_of_getElem? (i := 9) rfl)) (by decide +kernel) ⟨Nat.le_of_ble_eq_true rfl, Nat.le_of_ble_eq_true rfl⟩, (hts (.static yX11_reckoned) (List.mem_of_getElem? (i := 8) rfl)), trivial⟩ ⟨zCR, fun U hU hW => ⟨rfl, by rw [hU]; exact hP0, hE.warm hW⟩⟩ rfl rfl hl.1 rfl (lv_room (Nat.le_of_ble_eq_true rfl)) dX7_turnThatMayTrap_166 ⟨Nat.le_of_ble_eq_true rfl, Nat.le_of_ble_eq_true rfl⟩)) (fun r6 h => ?_)
        have hi_7 := h.1
        have h := h.2
        obtain ⟨p_7, hp_7⟩ := cget_22 cI cZ cP cF q S hi_7
        have hFc := zm_free hD hS hA
        refine va_callv (va_runV (As := [.int a3, .int r6]) (rest := []) ⟨hx, hb, hml, hown, hts⟩ (zd_X4_put l D cI cZ cP cF q S i1 a3 r6 H.size _ h) (cwV 2 hts zg_zd_X7_turnThatMayTrap_zd_X4_put_107 rfl rfl rfl (by decide +kernel) ⟨Nat.le_of_ble_eq_true rfl, Nat.le_of_ble_eq_true rfl⟩) ⟨zCW, va_recv hK hP (ci := 4) (q0 := p_7) rfl hp_7, fun U hU hW => ⟨rfl, by rw [hU], by rw [hU]; exact hP, hE.warm hW, hD.weaken (fun _ _ _ _ => trivial)⟩⟩ rfl rfl hl.1 rfl (lv_room (Nat.le_of_ble_eq_true rfl)) dX7_turnThatMayTrap_169 ⟨Nat.le_of_ble_eq_true rfl, Nat.le_of_ble_eq_true rfl⟩) hS (fun q _ h => hFc q h) hFc (fun S8 t H locs ht hvm h hB hz1 hk1 hS => ?_)
        obtain ⟨hP, hD1, hN1⟩ := hB
        rw [ht] at hP
        have hD := hD1.weaken (fun k q _ hq => hFc q.1 hq)
        have hN := hN1.trans hN
        exact W.vret hx hb hr (fun t ht hW => ⟨⟨S8, rfl, h, by rw [ht]; exact hP, hD, hN⟩, hS.F ht⟩) hS.2.2 dX7_turnThatMayTrap_172
      · have h := h.2 c_1
        refine lv_aload_n hx hb dX7_turnThatMayTrap_131 rfl (lv_at hl 1 rfl) ?_
        refine lv_iload hx hb dX7_turnThatMayTrap_132 (lv_at hl 5 rfl) ?_
        have hi_9 := h.1
        have h := h.2
        obtain ⟨p_9, hp_9⟩ := cget_22 cI cZ cP cF q S hi_9
        refine vp_callSi (va_Run.run (va_runV (As := [.int a5]) (rest := []) ⟨hx, hb, hml, hown, hts⟩ (zd_X4_valueOf l D cI cZ cP cF q S i1 a5  _ h) (cwV 1 hts zg_zd_X7_turnThatMayTrap_zd_X4_valueOf_162 rfl rfl rfl (by decide +kernel) ⟨Nat.le_of_ble_eq_true rfl, Nat.le_of_ble_eq_true rfl⟩) ⟨zCR, va_recv hK hP (ci := 4) (q0 := p_9) rfl hp_9, fun U hU hW => ⟨rfl, by rw [hU]; exact hP, hE.warm hW⟩⟩ rfl rfl hl.1 rfl (lv_room (Nat.le_of_ble_eq_true rfl)) dX7_turnThatMayTrap_134 ⟨Nat.le_of_ble_eq_true rfl, Nat.le_of_ble_eq_true rfl⟩)) (fun r10 h => ?_)
        refine lv_if_ne (tgt := 151) hx hb dX7_turnThatMayTrap_137 (by decide) (fun c_11 => ?_) (fun c_11 => ?_)
        · have h := h.1 c_11
          refine lv_aload_n hx hb dX7_turnThatMayTrap_151 rfl (lv_at hl 1 rfl) ?_
          refine lv_iload_n hx hb dX7_turnThatMayTrap_152 rfl (lv_at hl 3 rfl) ?_
          refine lv_iload_n hx hb dX7_turnThatMayTrap_153 rfl (lv_at hl 2 rfl) ?_
          refine lv_aload_n hx hb dX7_turnThatMayTrap_154 rfl (lv_at hl 1 rfl) ?_
          refine lv_iload hx hb dX7_turnThatMayTrap_155 (lv_at hl 4 rfl) ?_
          have hi_12 := h.1
          have h := h.2
          obtain ⟨p_12, hp_12⟩ := cget_22 cI cZ cP cF q S hi_12
          refine vp_callSi (va_Run.run (va_runV (As := [.int a4]) (rest := [.int a2, .int a3, .ref (q 22 i1)]) ⟨hx, hb, hml, hown, hts⟩ (zd_X4_valueOf l D cI cZ cP cF q S i1 a4  _ h) (cwV 1 hts zg_zd_X7_turnThatMayTrap_zd_X4_valueOf_162 rfl rfl rfl (by decide +kernel) ⟨Nat.le_of_ble_eq_true rfl, Nat.le_of_ble_eq_true rfl⟩) ⟨zCR, va_recv hK hP (ci := 4) (q0 := p_12) rfl hp_12, fun U hU hW => ⟨rfl, by rw [hU]; exact hP, hE.warm hW⟩⟩ rfl rfl hl.1 rfl (lv_room (Nat.le_of_ble_eq_true rfl)) dX7_turnThatMayTrap_157 ⟨Nat.le_of_ble_eq_true rfl, Nat.le_of_ble_eq_true rfl⟩)) (fun r13 h => ?_)
          refine lv_aload_n hx hb dX7_turnThatMayTrap_160 rfl (lv_at hl 1 rfl) ?_
          refine lv_iload hx hb dX7_turnThatMayTrap_161 (lv_at hl 5 rfl) ?_
          have hi_14 := h.1
          have h := h.2
          obtain ⟨p_14, hp_14⟩ := cget_22 cI cZ cP cF q S hi_14
          refine vp_callSi (va_Run.run (va_runV (As := [.int a5]) (rest := [.int r13, .int a2, .int a3, .ref (q 22 i1)]) ⟨hx, hb, hml, hown, hts⟩ (zd_X4_valueOf l D cI cZ cP cF q S i1 a5  _ h) (cwV 1 hts zg_zd_X7_turnThatMayTrap_zd_X4_valueOf_162 rfl rfl rfl (by decide +kernel) ⟨Nat.le_of_ble_eq_true rfl, Nat.le_of_ble_eq_true rfl⟩) ⟨zCR, va_recv hK hP (ci := 4) (q0 := p_14) rfl hp_14, fun U hU hW => ⟨rfl, by rw [hU]; exact hP, hE.warm hW⟩⟩ rfl rfl hl.1 rfl (lv_room (Nat.le_of_ble_eq_true rfl)) dX7_turnThatMayTrap_163 ⟨Nat.le_of_ble_eq_true rfl, Nat.le_of_ble_eq_true rfl⟩)) (fun r15 h => ?_)
          have hP0 : va_P D vwCl [] H := fun k q h => by simp at h
          refine vp_callSi (va_Run.run (va_runSN (As := [.int a2, .int r13, .int r15]) (rest := [.int a3, .ref (q 22 i1)]) ⟨hx, hb, hml, hown, hts⟩ (zd_X11_reckoned l D cI cZ cP cF a2 r13 r15  _ h) ⟨va_cnB 3 hts zg_zd_X7_turnThatMayTrap_zd_X11_reckoned_208 rfl rfl rfl hE.nX7_208 (hts (.initialized RX11) (List.mem_of_getElem? (i := 9) rfl)) (by decide +kernel) ⟨Nat.le_of_ble_eq_true rfl, Nat.le_of_ble_eq_true rfl⟩, (hts (.static yX11_reckoned) (List.mem_of_getElem? (i := 8) rfl)), trivial⟩ ⟨zCR, fun U hU hW => ⟨rfl, by rw [hU]; exact hP0, hE.warm hW⟩⟩ rfl rfl hl.1 rfl (lv_room (Nat.le_of_ble_eq_true rfl)) dX7_turnThatMayTrap_166 ⟨Nat.le_of_ble_eq_true rfl, Nat.le_of_ble_eq_true rfl⟩)) (fun r16 h => ?_)
          have hi_17 := h.1
          have h := h.2
          obtain ⟨p_17, hp_17⟩ := cget_22 cI cZ cP cF q S hi_17
          have hFc := zm_free hD hS hA
          refine va_callv (va_runV (As := [.int a3, .int r16]) (rest := []) ⟨hx, hb, hml, hown, hts⟩ (zd_X4_put l D cI cZ cP cF q S i1 a3 r16 H.size _ h) (cwV 2 hts zg_zd_X7_turnThatMayTrap_zd_X4_put_107 rfl rfl rfl (by decide +kernel) ⟨Nat.le_of_ble_eq_true rfl, Nat.le_of_ble_eq_true rfl⟩) ⟨zCW, va_recv hK hP (ci := 4) (q0 := p_17) rfl hp_17, fun U hU hW => ⟨rfl, by rw [hU], by rw [hU]; exact hP, hE.warm hW, hD.weaken (fun _ _ _ _ => trivial)⟩⟩ rfl rfl hl.1 rfl (lv_room (Nat.le_of_ble_eq_true rfl)) dX7_turnThatMayTrap_169 ⟨Nat.le_of_ble_eq_true rfl, Nat.le_of_ble_eq_true rfl⟩) hS (fun q _ h => hFc q h) hFc (fun S18 t H locs ht hvm h hB hz1 hk1 hS => ?_)
          obtain ⟨hP, hD1, hN1⟩ := hB
          rw [ht] at hP
          have hD := hD1.weaken (fun k q _ hq => hFc q.1 hq)
          have hN := hN1.trans hN
          exact W.vret hx hb hr (fun t ht hW => ⟨⟨S18, rfl, h, by rw [ht]; exact hP, hD, hN⟩, hS.F ht⟩) hS.2.2 dX7_turnThatMayTrap_172
        · have h := h.2 c_11
          refine lv_aload_n hx hb dX7_turnThatMayTrap_140 rfl (lv_at hl 0 rfl) ?_
          refine lv_aload_n hx hb dX7_turnThatMayTrap_141 rfl (lv_at hl 1 rfl) ?_
          refine lv_iconst (v := 1) hx hb dX7_turnThatMayTrap_142 (by decide) ?_
          refine lv_iload hx hb dX7_turnThatMayTrap_143 (lv_at hl 6 rfl) ?_
          obtain ⟨p_19, hp_19⟩ := cget_12 cI cZ cP cF q S
          have hi_19 : cin S 12 0 := Or.inl ⟨by decide, rfl⟩
          have hFc := zm_free hD hS hA
          refine va_callv (va_runV (As := [.ref (q 22 i1), .int 1, .int a6]) (rest := []) ⟨hx, hb, hml, hown, hts⟩ (zd_X7_endByTrap l D cI cZ cP cF q S i1 1 a6 H.size _ h) (cwV 3 hts zg_zd_X7_turnThatMayTrap_zd_X7_endByTrap_205 rfl rfl rfl (by decide +kernel) ⟨Nat.le_of_ble_eq_true rfl, Nat.le_of_ble_eq_true rfl⟩) ⟨zCW, va_recv hK hP (ci := 7) (q0 := p_19) rfl hp_19, fun U hU hW => ⟨rfl, by rw [hU], by rw [hU]; exact hP, hE.warm hW, hD.weaken (fun _ _ _ _ => trivial)⟩⟩ rfl rfl hl.1 rfl (lv_room (Nat.le_of_ble_eq_true rfl)) dX7_turnThatMayTrap_145 ⟨Nat.le_of_ble_eq_true rfl, Nat.le_of_ble_eq_true rfl⟩) hS (fun q _ h => hFc q h) hFc (fun S20 t H locs ht hvm h hB hz1 hk1 hS => ?_)
          obtain ⟨hP, hD1, hN1⟩ := hB
          rw [ht] at hP
          have hD := hD1.weaken (fun k q _ hq => hFc q.1 hq)
          have hN := hN1.trans hN
          refine lv_goto (tgt := 172) hx hb dX7_turnThatMayTrap_148 (by decide) ?_
          exact W.vret hx hb hr (fun t ht hW => ⟨⟨S20, rfl, h, by rw [ht]; exact hP, hD, hN⟩, hS.F ht⟩) hS.2.2 dX7_turnThatMayTrap_172
    · have h := h.2.1 h_in
      refine lv_tableIn (off := 27) (tgt := 28) hx hb dX7_turnThatMayTrap_1 (by rw [h_in]; decide) (by rw [h_in]; decide) (by rw [h_in]; decide) (by decide) ?_
      refine lv_aload_n hx hb dX7_turnThatMayTrap_28 rfl (lv_at hl 0 rfl) ?_
      refine lv_aload_n hx hb dX7_turnThatMayTrap_29 rfl (lv_at hl 1 rfl) ?_
      refine lv_iload_n hx hb dX7_turnThatMayTrap_30 rfl (lv_at hl 3 rfl) ?_
      refine lv_aload_n hx hb dX7_turnThatMayTrap_31 rfl (lv_at hl 1 rfl) ?_
      refine lv_iload hx hb dX7_turnThatMayTrap_32 (lv_at hl 4 rfl) ?_
      have hi_21 := h.1
      have h := h.2
      obtain ⟨p_21, hp_21⟩ := cget_22 cI cZ cP cF q S hi_21
      refine vp_callSi (va_Run.run (va_runV (As := [.int a4]) (rest := [.int a3, .ref (q 22 i1), .ref (q 12 0)]) ⟨hx, hb, hml, hown, hts⟩ (zd_X4_valueOf l D cI cZ cP cF q S i1 a4  _ h) (cwV 1 hts zg_zd_X7_turnThatMayTrap_zd_X4_valueOf_162 rfl rfl rfl (by decide +kernel) ⟨Nat.le_of_ble_eq_true rfl, Nat.le_of_ble_eq_true rfl⟩) ⟨zCR, va_recv hK hP (ci := 4) (q0 := p_21) rfl hp_21, fun U hU hW => ⟨rfl, by rw [hU]; exact hP, hE.warm hW⟩⟩ rfl rfl hl.1 rfl (lv_room (Nat.le_of_ble_eq_true rfl)) dX7_turnThatMayTrap_34 ⟨Nat.le_of_ble_eq_true rfl, Nat.le_of_ble_eq_true rfl⟩)) (fun r22 h => ?_)
      refine lv_iload hx hb dX7_turnThatMayTrap_37 (lv_at hl 6 rfl) ?_
      obtain ⟨p_23, hp_23⟩ := cget_12 cI cZ cP cF q S
      have hi_23 : cin S 12 0 := Or.inl ⟨by decide, rfl⟩
      have hFc := zm_free hD hS hA
      refine va_callv (va_runV (As := [.ref (q 22 i1), .int a3, .int r22, .int a6]) (rest := []) ⟨hx, hb, hml, hown, hts⟩ (zd_X7_newRow l D cI cZ cP cF q S i1 a3 r22 a6 H.size _ h) (cwV 4 hts zg_zd_X7_turnThatMayTrap_zd_X7_newRow_190 rfl rfl rfl (by decide +kernel) ⟨Nat.le_of_ble_eq_true rfl, Nat.le_of_ble_eq_true rfl⟩) ⟨zCW, va_recv hK hP (ci := 7) (q0 := p_23) rfl hp_23, fun U hU hW => ⟨rfl, by rw [hU], by rw [hU]; exact hP, hE.warm hW, hD.weaken (fun _ _ _ _ => trivial)⟩⟩ rfl rfl hl.1 rfl (lv_room (Nat.le_of_ble_eq_true rfl)) dX7_turnThatMayTrap_39 ⟨Nat.le_of_ble_eq_true rfl, Nat.le_of_ble_eq_true rfl⟩) hS (fun q _ h => hFc q h) hFc (fun S24 t H locs ht hvm h hB hz1 hk1 hS => ?_)
      obtain ⟨hP, hD1, hN1⟩ := hB
      rw [ht] at hP
      have hD := hD1.weaken (fun k q _ hq => hFc q.1 hq)
      have hN := hN1.trans hN
      refine lv_goto (tgt := 172) hx hb dX7_turnThatMayTrap_42 (by decide) ?_
      exact W.vret hx hb hr (fun t ht hW => ⟨⟨S24, rfl, h, by rw [ht]; exact hP, hD, hN⟩, hS.F ht⟩) hS.2.2 dX7_turnThatMayTrap_172
    · have h := h.2.2.1 h_in
      refine lv_tableIn (off := 44) (tgt := 45) hx hb dX7_turnThatMayTrap_1 (by rw [h_in]; decide) (by rw [h_in]; decide) (by rw [h_in]; decide) (by decide) ?_
      refine lv_aload_n hx hb dX7_turnThatMayTrap_45 rfl (lv_at hl 0 rfl) ?_
      refine lv_aload_n hx hb dX7_turnThatMayTrap_46 rfl (lv_at hl 1 rfl) ?_
      refine lv_iload hx hb dX7_turnThatMayTrap_47 (lv_at hl 4 rfl) ?_
      refine lv_aload_n hx hb dX7_turnThatMayTrap_49 rfl (lv_at hl 1 rfl) ?_
      refine lv_iload hx hb dX7_turnThatMayTrap_50 (lv_at hl 5 rfl) ?_
      have hi_25 := h.1
      have h := h.2
      obtain ⟨p_25, hp_25⟩ := cget_22 cI cZ cP cF q S hi_25
      refine vp_callSi (va_Run.run (va_runV (As := [.int a5]) (rest := [.int a4, .ref (q 22 i1), .ref (q 12 0)]) ⟨hx, hb, hml, hown, hts⟩ (zd_X4_valueOf l D cI cZ cP cF q S i1 a5  _ h) (cwV 1 hts zg_zd_X7_turnThatMayTrap_zd_X4_valueOf_162 rfl rfl rfl (by decide +kernel) ⟨Nat.le_of_ble_eq_true rfl, Nat.le_of_ble_eq_true rfl⟩) ⟨zCR, va_recv hK hP (ci := 4) (q0 := p_25) rfl hp_25, fun U hU hW => ⟨rfl, by rw [hU]; exact hP, hE.warm hW⟩⟩ rfl rfl hl.1 rfl (lv_room (Nat.le_of_ble_eq_true rfl)) dX7_turnThatMayTrap_52 ⟨Nat.le_of_ble_eq_true rfl, Nat.le_of_ble_eq_true rfl⟩)) (fun r26 h => ?_)
      refine lv_iload hx hb dX7_turnThatMayTrap_55 (lv_at hl 6 rfl) ?_
      obtain ⟨p_27, hp_27⟩ := cget_12 cI cZ cP cF q S
      have hi_27 : cin S 12 0 := Or.inl ⟨by decide, rfl⟩
      have hFc := zm_free hD hS hA
      refine va_calli (va_runV (As := [.ref (q 22 i1), .int a4, .int r26, .int a6]) (rest := []) ⟨hx, hb, hml, hown, hts⟩ (zd_X7_isThere l D cI cZ cP cF q S i1 a4 r26 a6 H.size _ h) (cwV 4 hts zg_zd_X7_turnThatMayTrap_zd_X7_isThere_193 rfl rfl rfl (by decide +kernel) ⟨Nat.le_of_ble_eq_true rfl, Nat.le_of_ble_eq_true rfl⟩) ⟨zCW, va_recv hK hP (ci := 7) (q0 := p_27) rfl hp_27, fun U hU hW => ⟨rfl, by rw [hU], by rw [hU]; exact hP, hE.warm hW, hD.weaken (fun _ _ _ _ => trivial)⟩⟩ rfl rfl hl.1 rfl (lv_room (Nat.le_of_ble_eq_true rfl)) dX7_turnThatMayTrap_57 ⟨Nat.le_of_ble_eq_true rfl, Nat.le_of_ble_eq_true rfl⟩) hS (fun q _ h => hFc q h) hFc (fun r28 S28 t H locs ht hvm h hB hz1 hk1 hS => ?_)
      obtain ⟨hP, hD1, hN1⟩ := hB
      rw [ht] at hP
      have hD := hD1.weaken (fun k q _ hq => hFc q.1 hq)
      have hN := hN1.trans hN
      refine lv_if_eq (tgt := 172) hx hb dX7_turnThatMayTrap_60 (by decide) (fun c_29 => ?_) (fun c_29 => ?_)
      · have h := h.1 c_29
        exact W.vret hx hb hr (fun t ht hW => ⟨⟨S28, rfl, h, by rw [ht]; exact hP, hD, hN⟩, hS.F ht⟩) hS.2.2 dX7_turnThatMayTrap_172
      · have h := h.2 c_29
        refine lv_aload_n hx hb dX7_turnThatMayTrap_63 rfl (lv_at hl 1 rfl) ?_
        refine lv_iload_n hx hb dX7_turnThatMayTrap_64 rfl (lv_at hl 3 rfl) ?_
        refine lv_aload_n hx hb dX7_turnThatMayTrap_65 rfl (lv_at hl 0 rfl) ?_
        obtain ⟨p_30, hp_30⟩ := cget_12 cI cZ cP cF q S28
        have hi_30 : cin S28 12 0 := Or.inl ⟨by decide, rfl⟩
        refine va_get (D := D) (ci := 7) (v := .ref (q 3 0)) (C := RX7) (T := TX7) (N := 10) hx hb hts (fun _ h => List.mem_cons_of_mem _ (List.mem_append_left _ (List.mem_append_left _ (List.mem_append_left _ (List.mem_append_right _ h))))) hown hK hP p_30 hp_30 rfl 1 (by decide) (hts (.fieldLink RX7 32 "TemplateForge$Machine" "data" "LTemplateForge$Data;") (List.mem_of_getElem? (i := 31) rfl)) (fun _ h9 => h9) rfl dX7_turnThatMayTrap_66 ?_
        refine lv_iload hx hb dX7_turnThatMayTrap_69 (lv_at hl 4 rfl) ?_
        refine lv_aload_n hx hb dX7_turnThatMayTrap_71 rfl (lv_at hl 1 rfl) ?_
        refine lv_iload hx hb dX7_turnThatMayTrap_72 (lv_at hl 5 rfl) ?_
        have hi_31 := h.1
        have h := h.2
        obtain ⟨p_31, hp_31⟩ := cget_22 cI cZ cP cF q S28 hi_31
        refine vp_callSi (va_Run.run (va_runV (As := [.int a5]) (rest := [.int a4, .ref (q 3 0), .int a3, .ref (q 22 i1)]) ⟨hx, hb, hml, hown, hts⟩ (zd_X4_valueOf l D cI cZ cP cF q S28 i1 a5  _ h) (cwV 1 hts zg_zd_X7_turnThatMayTrap_zd_X4_valueOf_162 rfl rfl rfl (by decide +kernel) ⟨Nat.le_of_ble_eq_true rfl, Nat.le_of_ble_eq_true rfl⟩) ⟨zCR, va_recv hK hP (ci := 4) (q0 := p_31) rfl hp_31, fun U hU hW => ⟨rfl, by rw [hU]; exact hP, hE.warm hW⟩⟩ rfl rfl hl.1 rfl (lv_room (Nat.le_of_ble_eq_true rfl)) dX7_turnThatMayTrap_74 ⟨Nat.le_of_ble_eq_true rfl, Nat.le_of_ble_eq_true rfl⟩)) (fun r32 h => ?_)
        obtain ⟨p_33, hp_33⟩ := cget_3 cI cZ cP cF q S28
        have hi_33 : cin S28 3 0 := Or.inl ⟨by decide, rfl⟩
        refine vp_callSi (va_Run.run (va_runV (As := [.int a4, .int r32]) (rest := [.int a3, .ref (q 22 i1)]) ⟨hx, hb, hml, hown, hts⟩ (zd_X2_itemOf l D cI cZ cP cF q S28 a4 r32  _ h) (cwV 2 hts zg_zd_X7_turnThatMayTrap_zd_X2_itemOf_197 rfl rfl rfl (by decide +kernel) ⟨Nat.le_of_ble_eq_true rfl, Nat.le_of_ble_eq_true rfl⟩) ⟨zCR, va_recv hK hP (ci := 2) (q0 := p_33) rfl hp_33, fun U hU hW => ⟨rfl, by rw [hU]; exact hP, hE.warm hW⟩⟩ rfl rfl hl.1 rfl (lv_room (Nat.le_of_ble_eq_true rfl)) dX7_turnThatMayTrap_77 ⟨Nat.le_of_ble_eq_true rfl, Nat.le_of_ble_eq_true rfl⟩)) (fun r34 h => ?_)
        have hi_35 := h.1
        have h := h.2
        obtain ⟨p_35, hp_35⟩ := cget_22 cI cZ cP cF q S28 hi_35
        have hFc := zm_free hD hS hA
        refine va_callv (va_runV (As := [.int a3, .int r34]) (rest := []) ⟨hx, hb, hml, hown, hts⟩ (zd_X4_put l D cI cZ cP cF q S28 i1 a3 r34 H.size _ h) (cwV 2 hts zg_zd_X7_turnThatMayTrap_zd_X4_put_107 rfl rfl rfl (by decide +kernel) ⟨Nat.le_of_ble_eq_true rfl, Nat.le_of_ble_eq_true rfl⟩) ⟨zCW, va_recv hK hP (ci := 4) (q0 := p_35) rfl hp_35, fun U hU hW => ⟨rfl, by rw [hU], by rw [hU]; exact hP, hE.warm hW, hD.weaken (fun _ _ _ _ => trivial)⟩⟩ rfl rfl hl.1 rfl (lv_room (Nat.le_of_ble_eq_true rfl)) dX7_turnThatMayTrap_80 ⟨Nat.le_of_ble_eq_true rfl, Nat.le_of_ble_eq_true rfl⟩) hS (fun q _ h => hFc q h) hFc (fun S36 t H locs ht hvm h hB hz1 hk1 hS => ?_)
        obtain ⟨hP, hD1, hN1⟩ := hB
        rw [ht] at hP
        have hD := hD1.weaken (fun k q _ hq => hFc q.1 hq)
        have hN := hN1.trans hN
        refine lv_goto (tgt := 172) hx hb dX7_turnThatMayTrap_83 (by decide) ?_
        exact W.vret hx hb hr (fun t ht hW => ⟨⟨S36, rfl, h, by rw [ht]; exact hP, hD, hN⟩, hS.F ht⟩) hS.2.2 dX7_turnThatMayTrap_172
    · have h := h.2.2.2 h_in
      refine lv_tableIn (off := 85) (tgt := 86) hx hb dX7_turnThatMayTrap_1 (by rw [h_in]; decide) (by rw [h_in]; decide) (by rw [h_in]; decide) (by decide) ?_
      refine lv_aload_n hx hb dX7_turnThatMayTrap_86 rfl (lv_at hl 0 rfl) ?_
      refine lv_aload_n hx hb dX7_turnThatMayTrap_87 rfl (lv_at hl 1 rfl) ?_
      refine lv_iload_n hx hb dX7_turnThatMayTrap_88 rfl (lv_at hl 3 rfl) ?_
      refine lv_aload_n hx hb dX7_turnThatMayTrap_89 rfl (lv_at hl 1 rfl) ?_
      refine lv_iload hx hb dX7_turnThatMayTrap_90 (lv_at hl 4 rfl) ?_
      have hi_37 := h.1
      have h := h.2
      obtain ⟨p_37, hp_37⟩ := cget_22 cI cZ cP cF q S hi_37
      refine vp_callSi (va_Run.run (va_runV (As := [.int a4]) (rest := [.int a3, .ref (q 22 i1), .ref (q 12 0)]) ⟨hx, hb, hml, hown, hts⟩ (zd_X4_valueOf l D cI cZ cP cF q S i1 a4  _ h) (cwV 1 hts zg_zd_X7_turnThatMayTrap_zd_X4_valueOf_162 rfl rfl rfl (by decide +kernel) ⟨Nat.le_of_ble_eq_true rfl, Nat.le_of_ble_eq_true rfl⟩) ⟨zCR, va_recv hK hP (ci := 4) (q0 := p_37) rfl hp_37, fun U hU hW => ⟨rfl, by rw [hU]; exact hP, hE.warm hW⟩⟩ rfl rfl hl.1 rfl (lv_room (Nat.le_of_ble_eq_true rfl)) dX7_turnThatMayTrap_92 ⟨Nat.le_of_ble_eq_true rfl, Nat.le_of_ble_eq_true rfl⟩)) (fun r38 h => ?_)
      refine lv_iload hx hb dX7_turnThatMayTrap_95 (lv_at hl 6 rfl) ?_
      obtain ⟨p_39, hp_39⟩ := cget_12 cI cZ cP cF q S
      have hi_39 : cin S 12 0 := Or.inl ⟨by decide, rfl⟩
      have hFc := zm_free hD hS hA
      refine va_calli (va_runV (As := [.ref (q 22 i1), .int a3, .int r38, .int a6]) (rest := []) ⟨hx, hb, hml, hown, hts⟩ (zd_X7_isThere l D cI cZ cP cF q S i1 a3 r38 a6 H.size _ h) (cwV 4 hts zg_zd_X7_turnThatMayTrap_zd_X7_isThere_193 rfl rfl rfl (by decide +kernel) ⟨Nat.le_of_ble_eq_true rfl, Nat.le_of_ble_eq_true rfl⟩) ⟨zCW, va_recv hK hP (ci := 7) (q0 := p_39) rfl hp_39, fun U hU hW => ⟨rfl, by rw [hU], by rw [hU]; exact hP, hE.warm hW, hD.weaken (fun _ _ _ _ => trivial)⟩⟩ rfl rfl hl.1 rfl (lv_room (Nat.le_of_ble_eq_true rfl)) dX7_turnThatMayTrap_97 ⟨Nat.le_of_ble_eq_true rfl, Nat.le_of_ble_eq_true rfl⟩) hS (fun q _ h => hFc q h) hFc (fun r40 S40 t H locs ht hvm h hB hz1 hk1 hS => ?_)
      obtain ⟨hP, hD1, hN1⟩ := hB
      rw [ht] at hP
      have hD := hD1.weaken (fun k q _ hq => hFc q.1 hq)
      have hN := hN1.trans hN
      refine lv_if_eq (tgt := 172) hx hb dX7_turnThatMayTrap_100 (by decide) (fun c_41 => ?_) (fun c_41 => ?_)
      · have h := h.1 c_41
        exact W.vret hx hb hr (fun t ht hW => ⟨⟨S40, rfl, h, by rw [ht]; exact hP, hD, hN⟩, hS.F ht⟩) hS.2.2 dX7_turnThatMayTrap_172
      · have h := h.2 c_41
        refine lv_aload_n hx hb dX7_turnThatMayTrap_103 rfl (lv_at hl 0 rfl) ?_
        obtain ⟨p_42, hp_42⟩ := cget_12 cI cZ cP cF q S40
        have hi_42 : cin S40 12 0 := Or.inl ⟨by decide, rfl⟩
        refine va_get (D := D) (ci := 7) (v := .ref (q 3 0)) (C := RX7) (T := TX7) (N := 10) hx hb hts (fun _ h => List.mem_cons_of_mem _ (List.mem_append_left _ (List.mem_append_left _ (List.mem_append_left _ (List.mem_append_right _ h))))) hown hK hP p_42 hp_42 rfl 1 (by decide) (hts (.fieldLink RX7 32 "TemplateForge$Machine" "data" "LTemplateForge$Data;") (List.mem_of_getElem? (i := 31) rfl)) (fun _ h9 => h9) rfl dX7_turnThatMayTrap_104 ?_
        refine lv_iload_n hx hb dX7_turnThatMayTrap_107 rfl (lv_at hl 3 rfl) ?_
        refine lv_aload_n hx hb dX7_turnThatMayTrap_108 rfl (lv_at hl 1 rfl) ?_
        refine lv_iload hx hb dX7_turnThatMayTrap_109 (lv_at hl 4 rfl) ?_
        have hi_43 := h.1
        have h := h.2
        obtain ⟨p_43, hp_43⟩ := cget_22 cI cZ cP cF q S40 hi_43
        refine vp_callSi (va_Run.run (va_runV (As := [.int a4]) (rest := [.int a3, .ref (q 3 0)]) ⟨hx, hb, hml, hown, hts⟩ (zd_X4_valueOf l D cI cZ cP cF q S40 i1 a4  _ h) (cwV 1 hts zg_zd_X7_turnThatMayTrap_zd_X4_valueOf_162 rfl rfl rfl (by decide +kernel) ⟨Nat.le_of_ble_eq_true rfl, Nat.le_of_ble_eq_true rfl⟩) ⟨zCR, va_recv hK hP (ci := 4) (q0 := p_43) rfl hp_43, fun U hU hW => ⟨rfl, by rw [hU]; exact hP, hE.warm hW⟩⟩ rfl rfl hl.1 rfl (lv_room (Nat.le_of_ble_eq_true rfl)) dX7_turnThatMayTrap_111 ⟨Nat.le_of_ble_eq_true rfl, Nat.le_of_ble_eq_true rfl⟩)) (fun r44 h => ?_)
        refine lv_aload_n hx hb dX7_turnThatMayTrap_114 rfl (lv_at hl 1 rfl) ?_
        refine lv_iload hx hb dX7_turnThatMayTrap_115 (lv_at hl 5 rfl) ?_
        have hi_45 := h.1
        have h := h.2
        obtain ⟨p_45, hp_45⟩ := cget_22 cI cZ cP cF q S40 hi_45
        refine vp_callSi (va_Run.run (va_runV (As := [.int a5]) (rest := [.int r44, .int a3, .ref (q 3 0)]) ⟨hx, hb, hml, hown, hts⟩ (zd_X4_valueOf l D cI cZ cP cF q S40 i1 a5  _ h) (cwV 1 hts zg_zd_X7_turnThatMayTrap_zd_X4_valueOf_162 rfl rfl rfl (by decide +kernel) ⟨Nat.le_of_ble_eq_true rfl, Nat.le_of_ble_eq_true rfl⟩) ⟨zCR, va_recv hK hP (ci := 4) (q0 := p_45) rfl hp_45, fun U hU hW => ⟨rfl, by rw [hU]; exact hP, hE.warm hW⟩⟩ rfl rfl hl.1 rfl (lv_room (Nat.le_of_ble_eq_true rfl)) dX7_turnThatMayTrap_117 ⟨Nat.le_of_ble_eq_true rfl, Nat.le_of_ble_eq_true rfl⟩)) (fun r46 h => ?_)
        obtain ⟨p_47, hp_47⟩ := cget_3 cI cZ cP cF q S40
        have hi_47 : cin S40 3 0 := Or.inl ⟨by decide, rfl⟩
        have hFc := zm_free hD hS hA
        refine va_callv (va_runV (As := [.int a3, .int r44, .int r46]) (rest := []) ⟨hx, hb, hml, hown, hts⟩ (zd_X2_putItem l D cI cZ cP cF q S40 a3 r44 r46 H.size _ h) (cwV 3 hts zg_zd_X7_turnThatMayTrap_zd_X2_putItem_201 rfl rfl rfl (by decide +kernel) ⟨Nat.le_of_ble_eq_true rfl, Nat.le_of_ble_eq_true rfl⟩) ⟨zCW, va_recv hK hP (ci := 2) (q0 := p_47) rfl hp_47, fun U hU hW => ⟨rfl, by rw [hU], by rw [hU]; exact hP, hE.warm hW, hD.weaken (fun _ _ _ _ => trivial)⟩⟩ rfl rfl hl.1 rfl (lv_room (Nat.le_of_ble_eq_true rfl)) dX7_turnThatMayTrap_120 ⟨Nat.le_of_ble_eq_true rfl, Nat.le_of_ble_eq_true rfl⟩) hS (fun q _ h => hFc q h) hFc (fun S48 t H locs ht hvm h hB hz1 hk1 hS => ?_)
        obtain ⟨hP, hD1, hN1⟩ := hB
        rw [ht] at hP
        have hD := hD1.weaken (fun k q _ hq => hFc q.1 hq)
        have hN := hN1.trans hN
        refine lv_goto (tgt := 172) hx hb dX7_turnThatMayTrap_123 (by decide) ?_
        exact W.vret hx hb hr (fun t ht hW => ⟨⟨S48, rfl, h, by rw [ht]; exact hP, hD, hN⟩, hS.F ht⟩) hS.2.2 dX7_turnThatMayTrap_172
  exact key _ _ hP va_S.rf

def wp_X7_turn (S : CST) (Post : CST → Prop) : Prop :=
  wp_X7_latestFrame S  (fun r2 => ((r2 < 0) → (∀ S5 : CST, S5 = cs S 127 0 (fun _ => 3) → (Post S5))) ∧ ((¬ (r2 < 0)) → (cin S 22 ((r2 : Int32).toNatClampNeg) ∧ (((cv S 220 ((r2 : Int32).toNatClampNeg) 0) < 0) → (∀ S9 : CST, S9 = cs S 127 0 (fun _ => 3) → (Post S9))) ∧ ((¬ ((cv S 220 ((r2 : Int32).toNatClampNeg) 0) < 0)) → (cin S 22 ((r2 : Int32).toNatClampNeg) ∧ (((cv S 221 ((r2 : Int32).toNatClampNeg) 0) < 0) → (∀ S13 : CST, S13 = cs S 127 0 (fun _ => 3) → (Post S13))) ∧ ((¬ ((cv S 221 ((r2 : Int32).toNatClampNeg) 0) < 0)) → (cin S 22 ((r2 : Int32).toNatClampNeg) ∧ (((((cv S 222 ((r2 : Int32).toNatClampNeg) 0) : Int32) < 0) → (∀ S17 : CST, S17 = cs S 127 0 (fun _ => 3) → (Post S17))) ∧ ((¬ (((cv S 222 ((r2 : Int32).toNatClampNeg) 0) : Int32) < 0)) → (cin S 22 ((r2 : Int32).toNatClampNeg) ∧ (cin S 22 ((r2 : Int32).toNatClampNeg) ∧ (((cv S 221 ((r2 : Int32).toNatClampNeg) 0) < 0) → (False)) ∧ ((¬ ((cv S 221 ((r2 : Int32).toNatClampNeg) 0) < 0)) → (cin S 32 (((cv S 221 ((r2 : Int32).toNatClampNeg) 0) : Int32).toNatClampNeg) ∧ (wp_X1_parts S (((cv S 221 ((r2 : Int32).toNatClampNeg) 0) : Int32).toNatClampNeg) (fun r22 => ((((cv S 222 ((r2 : Int32).toNatClampNeg) 0) : Int32) < r22) → (cin S 22 ((r2 : Int32).toNatClampNeg) ∧ (((cv S 221 ((r2 : Int32).toNatClampNeg) 0) < 0) → (False)) ∧ ((¬ ((cv S 221 ((r2 : Int32).toNatClampNeg) 0) < 0)) → (cin S 32 (((cv S 221 ((r2 : Int32).toNatClampNeg) 0) : Int32).toNatClampNeg) ∧ (cin S 22 ((r2 : Int32).toNatClampNeg) ∧ (cin S 33 (((cv S 221 ((r2 : Int32).toNatClampNeg) 0) : Int32).toNatClampNeg) ∧ vp_in (5 * (cv S 222 ((r2 : Int32).toNatClampNeg) 0)) ((cv S 339 (((cv S 221 ((r2 : Int32).toNatClampNeg) 0) : Int32).toNatClampNeg) 0).toNatClampNeg) ∧ (cin S 33 (((cv S 221 ((r2 : Int32).toNatClampNeg) 0) : Int32).toNatClampNeg) ∧ vp_in ((5 * (cv S 222 ((r2 : Int32).toNatClampNeg) 0)) + 1) ((cv S 339 (((cv S 221 ((r2 : Int32).toNatClampNeg) 0) : Int32).toNatClampNeg) 0).toNatClampNeg) ∧ (cin S 33 (((cv S 221 ((r2 : Int32).toNatClampNeg) 0) : Int32).toNatClampNeg) ∧ vp_in ((5 * (cv S 222 ((r2 : Int32).toNatClampNeg) 0)) + 2) ((cv S 339 (((cv S 221 ((r2 : Int32).toNatClampNeg) 0) : Int32).toNatClampNeg) 0).toNatClampNeg) ∧ (cin S 33 (((cv S 221 ((r2 : Int32).toNatClampNeg) 0) : Int32).toNatClampNeg) ∧ vp_in ((5 * (cv S 222 ((r2 : Int32).toNatClampNeg) 0)) + 3) ((cv S 339 (((cv S 221 ((r2 : Int32).toNatClampNeg) 0) : Int32).toNatClampNeg) 0).toNatClampNeg) ∧ (cin S 33 (((cv S 221 ((r2 : Int32).toNatClampNeg) 0) : Int32).toNatClampNeg) ∧ vp_in ((5 * (cv S 222 ((r2 : Int32).toNatClampNeg) 0)) + 4) ((cv S 339 (((cv S 221 ((r2 : Int32).toNatClampNeg) 0) : Int32).toNatClampNeg) 0).toNatClampNeg) ∧ (cin S 22 ((r2 : Int32).toNatClampNeg) ∧ (cin S 22 ((r2 : Int32).toNatClampNeg) ∧ (∀ S35 : CST, S35 = cs S 222 ((r2 : Int32).toNatClampNeg) (fun _ => (cv S 222 ((r2 : Int32).toNatClampNeg) 0) + 1) → (((cv S 330 (((cv S 221 ((r2 : Int32).toNatClampNeg) 0) : Int32).toNatClampNeg) (5 * (cv S 222 ((r2 : Int32).toNatClampNeg) 0) : Int32).toNatClampNeg : Int32).toInt < 0 ∨ 18 < (cv S 330 (((cv S 221 ((r2 : Int32).toNatClampNeg) 0) : Int32).toNatClampNeg) (5 * (cv S 222 ((r2 : Int32).toNatClampNeg) 0) : Int32).toNatClampNeg : Int32).toInt → (wp_X7_turnThatMayTrap S35 ((r2 : Int32).toNatClampNeg) (cv S 330 (((cv S 221 ((r2 : Int32).toNatClampNeg) 0) : Int32).toNatClampNeg) (5 * (cv S 222 ((r2 : Int32).toNatClampNeg) 0) : Int32).toNatClampNeg) (cv S 330 (((cv S 221 ((r2 : Int32).toNatClampNeg) 0) : Int32).toNatClampNeg) ((5 * (cv S 222 ((r2 : Int32).toNatClampNeg) 0)) + 1 : Int32).toNatClampNeg) (cv S 330 (((cv S 221 ((r2 : Int32).toNatClampNeg) 0) : Int32).toNatClampNeg) ((5 * (cv S 222 ((r2 : Int32).toNatClampNeg) 0)) + 2 : Int32).toNatClampNeg) (cv S 330 (((cv S 221 ((r2 : Int32).toNatClampNeg) 0) : Int32).toNatClampNeg) ((5 * (cv S 222 ((r2 : Int32).toNatClampNeg) 0)) + 3 : Int32).toNatClampNeg) (cv S 330 (((cv S 221 ((r2 : Int32).toNatClampNeg) 0) : Int32).toNatClampNeg) ((5 * (cv S 222 ((r2 : Int32).toNatClampNeg) 0)) + 4 : Int32).toNatClampNeg) (fun S37 => Post S37))) ∧ ((cv S 330 (((cv S 221 ((r2 : Int32).toNatClampNeg) 0) : Int32).toNatClampNeg) (5 * (cv S 222 ((r2 : Int32).toNatClampNeg) 0) : Int32).toNatClampNeg) = 0 → (cin S35 22 ((r2 : Int32).toNatClampNeg) ∧ (wp_X4_put S35 ((r2 : Int32).toNatClampNeg) (cv S 330 (((cv S 221 ((r2 : Int32).toNatClampNeg) 0) : Int32).toNatClampNeg) ((5 * (cv S 222 ((r2 : Int32).toNatClampNeg) 0)) + 1 : Int32).toNatClampNeg) (cv S 330 (((cv S 221 ((r2 : Int32).toNatClampNeg) 0) : Int32).toNatClampNeg) ((5 * (cv S 222 ((r2 : Int32).toNatClampNeg) 0)) + 2 : Int32).toNatClampNeg) (fun S39 => Post S39)))) ∧ ((cv S 330 (((cv S 221 ((r2 : Int32).toNatClampNeg) 0) : Int32).toNatClampNeg) (5 * (cv S 222 ((r2 : Int32).toNatClampNeg) 0) : Int32).toNatClampNeg) = 1 → (cin S35 22 ((r2 : Int32).toNatClampNeg) ∧ (wp_X4_valueOf S35 ((r2 : Int32).toNatClampNeg) (cv S 330 (((cv S 221 ((r2 : Int32).toNatClampNeg) 0) : Int32).toNatClampNeg) ((5 * (cv S 222 ((r2 : Int32).toNatClampNeg) 0)) + 2 : Int32).toNatClampNeg) (fun r41 => cin S35 22 ((r2 : Int32).toNatClampNeg) ∧ (wp_X4_put S35 ((r2 : Int32).toNatClampNeg) (cv S 330 (((cv S 221 ((r2 : Int32).toNatClampNeg) 0) : Int32).toNatClampNeg) ((5 * (cv S 222 ((r2 : Int32).toNatClampNeg) 0)) + 1 : Int32).toNatClampNeg) r41 (fun S43 => Post S43)))))) ∧ ((cv S 330 (((cv S 221 ((r2 : Int32).toNatClampNeg) 0) : Int32).toNatClampNeg) (5 * (cv S 222 ((r2 : Int32).toNatClampNeg) 0) : Int32).toNatClampNeg) = 2 → (wp_X7_turnThatMayTrap S35 ((r2 : Int32).toNatClampNeg) (cv S 330 (((cv S 221 ((r2 : Int32).toNatClampNeg) 0) : Int32).toNatClampNeg) (5 * (cv S 222 ((r2 : Int32).toNatClampNeg) 0) : Int32).toNatClampNeg) (cv S 330 (((cv S 221 ((r2 : Int32).toNatClampNeg) 0) : Int32).toNatClampNeg) ((5 * (cv S 222 ((r2 : Int32).toNatClampNeg) 0)) + 1 : Int32).toNatClampNeg) (cv S 330 (((cv S 221 ((r2 : Int32).toNatClampNeg) 0) : Int32).toNatClampNeg) ((5 * (cv S 222 ((r2 : Int32).toNatClampNeg) 0)) + 2 : Int32).toNatClampNeg) (cv S 330 (((cv S 221 ((r2 : Int32).toNatClampNeg) 0) : Int32).toNatClampNeg) ((5 * (cv S 222 ((r2 : Int32).toNatClampNeg) 0)) + 3 : Int32).toNatClampNeg) (cv S 330 (((cv S 221 ((r2 : Int32).toNatClampNeg) 0) : Int32).toNatClampNeg) ((5 * (cv S 222 ((r2 : Int32).toNatClampNeg) 0)) + 4 : Int32).toNatClampNeg) (fun S45 => Post S45))) ∧ ((cv S 330 (((cv S 221 ((r2 : Int32).toNatClampNeg) 0) : Int32).toNatClampNeg) (5 * (cv S 222 ((r2 : Int32).toNatClampNeg) 0) : Int32).toNatClampNeg) = 3 → (wp_X7_turnThatMayTrap S35 ((r2 : Int32).toNatClampNeg) (cv S 330 (((cv S 221 ((r2 : Int32).toNatClampNeg) 0) : Int32).toNatClampNeg) (5 * (cv S 222 ((r2 : Int32).toNatClampNeg) 0) : Int32).toNatClampNeg) (cv S 330 (((cv S 221 ((r2 : Int32).toNatClampNeg) 0) : Int32).toNatClampNeg) ((5 * (cv S 222 ((r2 : Int32).toNatClampNeg) 0)) + 1 : Int32).toNatClampNeg) (cv S 330 (((cv S 221 ((r2 : Int32).toNatClampNeg) 0) : Int32).toNatClampNeg) ((5 * (cv S 222 ((r2 : Int32).toNatClampNeg) 0)) + 2 : Int32).toNatClampNeg) (cv S 330 (((cv S 221 ((r2 : Int32).toNatClampNeg) 0) : Int32).toNatClampNeg) ((5 * (cv S 222 ((r2 : Int32).toNatClampNeg) 0)) + 3 : Int32).toNatClampNeg) (cv S 330 (((cv S 221 ((r2 : Int32).toNatClampNeg) 0) : Int32).toNatClampNeg) ((5 * (cv S 222 ((r2 : Int32).toNatClampNeg) 0)) + 4 : Int32).toNatClampNeg) (fun S47 => Post S47))) ∧ ((cv S 330 (((cv S 221 ((r2 : Int32).toNatClampNeg) 0) : Int32).toNatClampNeg) (5 * (cv S 222 ((r2 : Int32).toNatClampNeg) 0) : Int32).toNatClampNeg) = 4 → (wp_X7_turnThatMayTrap S35 ((r2 : Int32).toNatClampNeg) (cv S 330 (((cv S 221 ((r2 : Int32).toNatClampNeg) 0) : Int32).toNatClampNeg) (5 * (cv S 222 ((r2 : Int32).toNatClampNeg) 0) : Int32).toNatClampNeg) (cv S 330 (((cv S 221 ((r2 : Int32).toNatClampNeg) 0) : Int32).toNatClampNeg) ((5 * (cv S 222 ((r2 : Int32).toNatClampNeg) 0)) + 1 : Int32).toNatClampNeg) (cv S 330 (((cv S 221 ((r2 : Int32).toNatClampNeg) 0) : Int32).toNatClampNeg) ((5 * (cv S 222 ((r2 : Int32).toNatClampNeg) 0)) + 2 : Int32).toNatClampNeg) (cv S 330 (((cv S 221 ((r2 : Int32).toNatClampNeg) 0) : Int32).toNatClampNeg) ((5 * (cv S 222 ((r2 : Int32).toNatClampNeg) 0)) + 3 : Int32).toNatClampNeg) (cv S 330 (((cv S 221 ((r2 : Int32).toNatClampNeg) 0) : Int32).toNatClampNeg) ((5 * (cv S 222 ((r2 : Int32).toNatClampNeg) 0)) + 4 : Int32).toNatClampNeg) (fun S49 => Post S49))) ∧ ((cv S 330 (((cv S 221 ((r2 : Int32).toNatClampNeg) 0) : Int32).toNatClampNeg) (5 * (cv S 222 ((r2 : Int32).toNatClampNeg) 0) : Int32).toNatClampNeg) = 5 → (wp_X7_turnThatMayTrap S35 ((r2 : Int32).toNatClampNeg) (cv S 330 (((cv S 221 ((r2 : Int32).toNatClampNeg) 0) : Int32).toNatClampNeg) (5 * (cv S 222 ((r2 : Int32).toNatClampNeg) 0) : Int32).toNatClampNeg) (cv S 330 (((cv S 221 ((r2 : Int32).toNatClampNeg) 0) : Int32).toNatClampNeg) ((5 * (cv S 222 ((r2 : Int32).toNatClampNeg) 0)) + 1 : Int32).toNatClampNeg) (cv S 330 (((cv S 221 ((r2 : Int32).toNatClampNeg) 0) : Int32).toNatClampNeg) ((5 * (cv S 222 ((r2 : Int32).toNatClampNeg) 0)) + 2 : Int32).toNatClampNeg) (cv S 330 (((cv S 221 ((r2 : Int32).toNatClampNeg) 0) : Int32).toNatClampNeg) ((5 * (cv S 222 ((r2 : Int32).toNatClampNeg) 0)) + 3 : Int32).toNatClampNeg) (cv S 330 (((cv S 221 ((r2 : Int32).toNatClampNeg) 0) : Int32).toNatClampNeg) ((5 * (cv S 222 ((r2 : Int32).toNatClampNeg) 0)) + 4 : Int32).toNatClampNeg) (fun S51 => Post S51))) ∧ ((cv S 330 (((cv S 221 ((r2 : Int32).toNatClampNeg) 0) : Int32).toNatClampNeg) (5 * (cv S 222 ((r2 : Int32).toNatClampNeg) 0) : Int32).toNatClampNeg) = 6 → (wp_X7_turnThatMayTrap S35 ((r2 : Int32).toNatClampNeg) (cv S 330 (((cv S 221 ((r2 : Int32).toNatClampNeg) 0) : Int32).toNatClampNeg) (5 * (cv S 222 ((r2 : Int32).toNatClampNeg) 0) : Int32).toNatClampNeg) (cv S 330 (((cv S 221 ((r2 : Int32).toNatClampNeg) 0) : Int32).toNatClampNeg) ((5 * (cv S 222 ((r2 : Int32).toNatClampNeg) 0)) + 1 : Int32).toNatClampNeg) (cv S 330 (((cv S 221 ((r2 : Int32).toNatClampNeg) 0) : Int32).toNatClampNeg) ((5 * (cv S 222 ((r2 : Int32).toNatClampNeg) 0)) + 2 : Int32).toNatClampNeg) (cv S 330 (((cv S 221 ((r2 : Int32).toNatClampNeg) 0) : Int32).toNatClampNeg) ((5 * (cv S 222 ((r2 : Int32).toNatClampNeg) 0)) + 3 : Int32).toNatClampNeg) (cv S 330 (((cv S 221 ((r2 : Int32).toNatClampNeg) 0) : Int32).toNatClampNeg) ((5 * (cv S 222 ((r2 : Int32).toNatClampNeg) 0)) + 4 : Int32).toNatClampNeg) (fun S53 => Post S53))) ∧ ((cv S 330 (((cv S 221 ((r2 : Int32).toNatClampNeg) 0) : Int32).toNatClampNeg) (5 * (cv S 222 ((r2 : Int32).toNatClampNeg) 0) : Int32).toNatClampNeg) = 7 → (wp_X7_turnThatMayTrap S35 ((r2 : Int32).toNatClampNeg) (cv S 330 (((cv S 221 ((r2 : Int32).toNatClampNeg) 0) : Int32).toNatClampNeg) (5 * (cv S 222 ((r2 : Int32).toNatClampNeg) 0) : Int32).toNatClampNeg) (cv S 330 (((cv S 221 ((r2 : Int32).toNatClampNeg) 0) : Int32).toNatClampNeg) ((5 * (cv S 222 ((r2 : Int32).toNatClampNeg) 0)) + 1 : Int32).toNatClampNeg) (cv S 330 (((cv S 221 ((r2 : Int32).toNatClampNeg) 0) : Int32).toNatClampNeg) ((5 * (cv S 222 ((r2 : Int32).toNatClampNeg) 0)) + 2 : Int32).toNatClampNeg) (cv S 330 (((cv S 221 ((r2 : Int32).toNatClampNeg) 0) : Int32).toNatClampNeg) ((5 * (cv S 222 ((r2 : Int32).toNatClampNeg) 0)) + 3 : Int32).toNatClampNeg) (cv S 330 (((cv S 221 ((r2 : Int32).toNatClampNeg) 0) : Int32).toNatClampNeg) ((5 * (cv S 222 ((r2 : Int32).toNatClampNeg) 0)) + 4 : Int32).toNatClampNeg) (fun S55 => Post S55))) ∧ ((cv S 330 (((cv S 221 ((r2 : Int32).toNatClampNeg) 0) : Int32).toNatClampNeg) (5 * (cv S 222 ((r2 : Int32).toNatClampNeg) 0) : Int32).toNatClampNeg) = 8 → (wp_X7_goTo S35 ((r2 : Int32).toNatClampNeg) (cv S 330 (((cv S 221 ((r2 : Int32).toNatClampNeg) 0) : Int32).toNatClampNeg) ((5 * (cv S 222 ((r2 : Int32).toNatClampNeg) 0)) + 1 : Int32).toNatClampNeg) (cv S 330 (((cv S 221 ((r2 : Int32).toNatClampNeg) 0) : Int32).toNatClampNeg) ((5 * (cv S 222 ((r2 : Int32).toNatClampNeg) 0)) + 4 : Int32).toNatClampNeg) (fun S57 => Post S57))) ∧ ((cv S 330 (((cv S 221 ((r2 : Int32).toNatClampNeg) 0) : Int32).toNatClampNeg) (5 * (cv S 222 ((r2 : Int32).toNatClampNeg) 0) : Int32).toNatClampNeg) = 9 → (cin S35 22 ((r2 : Int32).toNatClampNeg) ∧ (wp_X4_valueOf S35 ((r2 : Int32).toNatClampNeg) (cv S 330 (((cv S 221 ((r2 : Int32).toNatClampNeg) 0) : Int32).toNatClampNeg) ((5 * (cv S 222 ((r2 : Int32).toNatClampNeg) 0)) + 2 : Int32).toNatClampNeg) (fun r59 => ((¬ ((r59 : Int32) = 0)) → (Post S35)) ∧ (((r59 : Int32) = 0) → (wp_X7_goTo S35 ((r2 : Int32).toNatClampNeg) (cv S 330 (((cv S 221 ((r2 : Int32).toNatClampNeg) 0) : Int32).toNatClampNeg) ((5 * (cv S 222 ((r2 : Int32).toNatClampNeg) 0)) + 1 : Int32).toNatClampNeg) (cv S 330 (((cv S 221 ((r2 : Int32).toNatClampNeg) 0) : Int32).toNatClampNeg) ((5 * (cv S 222 ((r2 : Int32).toNatClampNeg) 0)) + 4 : Int32).toNatClampNeg) (fun S62 => Post S62))))))) ∧ ((cv S 330 (((cv S 221 ((r2 : Int32).toNatClampNeg) 0) : Int32).toNatClampNeg) (5 * (cv S 222 ((r2 : Int32).toNatClampNeg) 0) : Int32).toNatClampNeg) = 10 → (wp_X7_call S35 ((r2 : Int32).toNatClampNeg) (cv S 330 (((cv S 221 ((r2 : Int32).toNatClampNeg) 0) : Int32).toNatClampNeg) ((5 * (cv S 222 ((r2 : Int32).toNatClampNeg) 0)) + 2 : Int32).toNatClampNeg) (cv S 330 (((cv S 221 ((r2 : Int32).toNatClampNeg) 0) : Int32).toNatClampNeg) ((5 * (cv S 222 ((r2 : Int32).toNatClampNeg) 0)) + 1 : Int32).toNatClampNeg) (cv S 330 (((cv S 221 ((r2 : Int32).toNatClampNeg) 0) : Int32).toNatClampNeg) ((5 * (cv S 222 ((r2 : Int32).toNatClampNeg) 0)) + 4 : Int32).toNatClampNeg) (fun S64 => Post S64))) ∧ ((cv S 330 (((cv S 221 ((r2 : Int32).toNatClampNeg) 0) : Int32).toNatClampNeg) (5 * (cv S 222 ((r2 : Int32).toNatClampNeg) 0) : Int32).toNatClampNeg) = 11 → (cin S35 22 ((r2 : Int32).toNatClampNeg) ∧ (wp_X4_valueOf S35 ((r2 : Int32).toNatClampNeg) (cv S 330 (((cv S 221 ((r2 : Int32).toNatClampNeg) 0) : Int32).toNatClampNeg) ((5 * (cv S 222 ((r2 : Int32).toNatClampNeg) 0)) + 2 : Int32).toNatClampNeg) (fun r66 => wp_X7_giveBack S35 ((r2 : Int32).toNatClampNeg) r66 (fun S68 => Post S68))))) ∧ ((cv S 330 (((cv S 221 ((r2 : Int32).toNatClampNeg) 0) : Int32).toNatClampNeg) (5 * (cv S 222 ((r2 : Int32).toNatClampNeg) 0) : Int32).toNatClampNeg) = 12 → (wp_X2_valueOf S35 (cv S 330 (((cv S 221 ((r2 : Int32).toNatClampNeg) 0) : Int32).toNatClampNeg) ((5 * (cv S 222 ((r2 : Int32).toNatClampNeg) 0)) + 2 : Int32).toNatClampNeg) (fun r71 => cin S35 22 ((r2 : Int32).toNatClampNeg) ∧ (wp_X4_put S35 ((r2 : Int32).toNatClampNeg) (cv S 330 (((cv S 221 ((r2 : Int32).toNatClampNeg) 0) : Int32).toNatClampNeg) ((5 * (cv S 222 ((r2 : Int32).toNatClampNeg) 0)) + 1 : Int32).toNatClampNeg) r71 (fun S73 => Post S73))))) ∧ ((cv S 330 (((cv S 221 ((r2 : Int32).toNatClampNeg) 0) : Int32).toNatClampNeg) (5 * (cv S 222 ((r2 : Int32).toNatClampNeg) 0) : Int32).toNatClampNeg) = 13 → (cin S35 22 ((r2 : Int32).toNatClampNeg) ∧ (wp_X4_valueOf S35 ((r2 : Int32).toNatClampNeg) (cv S 330 (((cv S 221 ((r2 : Int32).toNatClampNeg) 0) : Int32).toNatClampNeg) ((5 * (cv S 222 ((r2 : Int32).toNatClampNeg) 0)) + 2 : Int32).toNatClampNeg) (fun r76 => wp_X2_put S35 (cv S 330 (((cv S 221 ((r2 : Int32).toNatClampNeg) 0) : Int32).toNatClampNeg) ((5 * (cv S 222 ((r2 : Int32).toNatClampNeg) 0)) + 1 : Int32).toNatClampNeg) r76 (fun S78 => Post S78))))) ∧ ((cv S 330 (((cv S 221 ((r2 : Int32).toNatClampNeg) 0) : Int32).toNatClampNeg) (5 * (cv S 222 ((r2 : Int32).toNatClampNeg) 0) : Int32).toNatClampNeg) = 14 → (wp_X7_turnThatMayTrap S35 ((r2 : Int32).toNatClampNeg) (cv S 330 (((cv S 221 ((r2 : Int32).toNatClampNeg) 0) : Int32).toNatClampNeg) (5 * (cv S 222 ((r2 : Int32).toNatClampNeg) 0) : Int32).toNatClampNeg) (cv S 330 (((cv S 221 ((r2 : Int32).toNatClampNeg) 0) : Int32).toNatClampNeg) ((5 * (cv S 222 ((r2 : Int32).toNatClampNeg) 0)) + 1 : Int32).toNatClampNeg) (cv S 330 (((cv S 221 ((r2 : Int32).toNatClampNeg) 0) : Int32).toNatClampNeg) ((5 * (cv S 222 ((r2 : Int32).toNatClampNeg) 0)) + 2 : Int32).toNatClampNeg) (cv S 330 (((cv S 221 ((r2 : Int32).toNatClampNeg) 0) : Int32).toNatClampNeg) ((5 * (cv S 222 ((r2 : Int32).toNatClampNeg) 0)) + 3 : Int32).toNatClampNeg) (cv S 330 (((cv S 221 ((r2 : Int32).toNatClampNeg) 0) : Int32).toNatClampNeg) ((5 * (cv S 222 ((r2 : Int32).toNatClampNeg) 0)) + 4 : Int32).toNatClampNeg) (fun S80 => Post S80))) ∧ ((cv S 330 (((cv S 221 ((r2 : Int32).toNatClampNeg) 0) : Int32).toNatClampNeg) (5 * (cv S 222 ((r2 : Int32).toNatClampNeg) 0) : Int32).toNatClampNeg) = 15 → (wp_X7_turnThatMayTrap S35 ((r2 : Int32).toNatClampNeg) (cv S 330 (((cv S 221 ((r2 : Int32).toNatClampNeg) 0) : Int32).toNatClampNeg) (5 * (cv S 222 ((r2 : Int32).toNatClampNeg) 0) : Int32).toNatClampNeg) (cv S 330 (((cv S 221 ((r2 : Int32).toNatClampNeg) 0) : Int32).toNatClampNeg) ((5 * (cv S 222 ((r2 : Int32).toNatClampNeg) 0)) + 1 : Int32).toNatClampNeg) (cv S 330 (((cv S 221 ((r2 : Int32).toNatClampNeg) 0) : Int32).toNatClampNeg) ((5 * (cv S 222 ((r2 : Int32).toNatClampNeg) 0)) + 2 : Int32).toNatClampNeg) (cv S 330 (((cv S 221 ((r2 : Int32).toNatClampNeg) 0) : Int32).toNatClampNeg) ((5 * (cv S 222 ((r2 : Int32).toNatClampNeg) 0)) + 3 : Int32).toNatClampNeg) (cv S 330 (((cv S 221 ((r2 : Int32).toNatClampNeg) 0) : Int32).toNatClampNeg) ((5 * (cv S 222 ((r2 : Int32).toNatClampNeg) 0)) + 4 : Int32).toNatClampNeg) (fun S82 => Post S82))) ∧ ((cv S 330 (((cv S 221 ((r2 : Int32).toNatClampNeg) 0) : Int32).toNatClampNeg) (5 * (cv S 222 ((r2 : Int32).toNatClampNeg) 0) : Int32).toNatClampNeg) = 16 → (wp_X7_turnThatMayTrap S35 ((r2 : Int32).toNatClampNeg) (cv S 330 (((cv S 221 ((r2 : Int32).toNatClampNeg) 0) : Int32).toNatClampNeg) (5 * (cv S 222 ((r2 : Int32).toNatClampNeg) 0) : Int32).toNatClampNeg) (cv S 330 (((cv S 221 ((r2 : Int32).toNatClampNeg) 0) : Int32).toNatClampNeg) ((5 * (cv S 222 ((r2 : Int32).toNatClampNeg) 0)) + 1 : Int32).toNatClampNeg) (cv S 330 (((cv S 221 ((r2 : Int32).toNatClampNeg) 0) : Int32).toNatClampNeg) ((5 * (cv S 222 ((r2 : Int32).toNatClampNeg) 0)) + 2 : Int32).toNatClampNeg) (cv S 330 (((cv S 221 ((r2 : Int32).toNatClampNeg) 0) : Int32).toNatClampNeg) ((5 * (cv S 222 ((r2 : Int32).toNatClampNeg) 0)) + 3 : Int32).toNatClampNeg) (cv S 330 (((cv S 221 ((r2 : Int32).toNatClampNeg) 0) : Int32).toNatClampNeg) ((5 * (cv S 222 ((r2 : Int32).toNatClampNeg) 0)) + 4 : Int32).toNatClampNeg) (fun S84 => Post S84))) ∧ ((cv S 330 (((cv S 221 ((r2 : Int32).toNatClampNeg) 0) : Int32).toNatClampNeg) (5 * (cv S 222 ((r2 : Int32).toNatClampNeg) 0) : Int32).toNatClampNeg) = 17 → (cin S35 22 ((r2 : Int32).toNatClampNeg) ∧ (wp_X4_valueOf S35 ((r2 : Int32).toNatClampNeg) (cv S 330 (((cv S 221 ((r2 : Int32).toNatClampNeg) 0) : Int32).toNatClampNeg) ((5 * (cv S 222 ((r2 : Int32).toNatClampNeg) 0)) + 1 : Int32).toNatClampNeg) (fun r86 => ((¬ ((r86 : Int32) = (cv S 330 (((cv S 221 ((r2 : Int32).toNatClampNeg) 0) : Int32).toNatClampNeg) ((5 * (cv S 222 ((r2 : Int32).toNatClampNeg) 0)) + 2 : Int32).toNatClampNeg))) → (wp_X7_guard S35 ((r2 : Int32).toNatClampNeg) (cv S 330 (((cv S 221 ((r2 : Int32).toNatClampNeg) 0) : Int32).toNatClampNeg) ((5 * (cv S 222 ((r2 : Int32).toNatClampNeg) 0)) + 1 : Int32).toNatClampNeg) 0 (cv S 330 (((cv S 221 ((r2 : Int32).toNatClampNeg) 0) : Int32).toNatClampNeg) ((5 * (cv S 222 ((r2 : Int32).toNatClampNeg) 0)) + 4 : Int32).toNatClampNeg) (fun S89 => Post S89))) ∧ (((r86 : Int32) = (cv S 330 (((cv S 221 ((r2 : Int32).toNatClampNeg) 0) : Int32).toNatClampNeg) ((5 * (cv S 222 ((r2 : Int32).toNatClampNeg) 0)) + 2 : Int32).toNatClampNeg)) → (wp_X7_guard S35 ((r2 : Int32).toNatClampNeg) (cv S 330 (((cv S 221 ((r2 : Int32).toNatClampNeg) 0) : Int32).toNatClampNeg) ((5 * (cv S 222 ((r2 : Int32).toNatClampNeg) 0)) + 1 : Int32).toNatClampNeg) 1 (cv S 330 (((cv S 221 ((r2 : Int32).toNatClampNeg) 0) : Int32).toNatClampNeg) ((5 * (cv S 222 ((r2 : Int32).toNatClampNeg) 0)) + 4 : Int32).toNatClampNeg) (fun S91 => Post S91))))))) ∧ ((cv S 330 (((cv S 221 ((r2 : Int32).toNatClampNeg) 0) : Int32).toNatClampNeg) (5 * (cv S 222 ((r2 : Int32).toNatClampNeg) 0) : Int32).toNatClampNeg) = 18 → (wp_X2_valueOf S35 (cv S 330 (((cv S 221 ((r2 : Int32).toNatClampNeg) 0) : Int32).toNatClampNeg) ((5 * (cv S 222 ((r2 : Int32).toNatClampNeg) 0)) + 1 : Int32).toNatClampNeg) (fun r94 => ((¬ ((r94 : Int32) = (cv S 330 (((cv S 221 ((r2 : Int32).toNatClampNeg) 0) : Int32).toNatClampNeg) ((5 * (cv S 222 ((r2 : Int32).toNatClampNeg) 0)) + 2 : Int32).toNatClampNeg))) → (wp_X7_guard S35 ((r2 : Int32).toNatClampNeg) (3 + (cv S 330 (((cv S 221 ((r2 : Int32).toNatClampNeg) 0) : Int32).toNatClampNeg) ((5 * (cv S 222 ((r2 : Int32).toNatClampNeg) 0)) + 1 : Int32).toNatClampNeg)) 0 (cv S 330 (((cv S 221 ((r2 : Int32).toNatClampNeg) 0) : Int32).toNatClampNeg) ((5 * (cv S 222 ((r2 : Int32).toNatClampNeg) 0)) + 4 : Int32).toNatClampNeg) (fun S97 => Post S97))) ∧ (((r94 : Int32) = (cv S 330 (((cv S 221 ((r2 : Int32).toNatClampNeg) 0) : Int32).toNatClampNeg) ((5 * (cv S 222 ((r2 : Int32).toNatClampNeg) 0)) + 2 : Int32).toNatClampNeg)) → (wp_X7_guard S35 ((r2 : Int32).toNatClampNeg) (3 + (cv S 330 (((cv S 221 ((r2 : Int32).toNatClampNeg) 0) : Int32).toNatClampNeg) ((5 * (cv S 222 ((r2 : Int32).toNatClampNeg) 0)) + 1 : Int32).toNatClampNeg)) 1 (cv S 330 (((cv S 221 ((r2 : Int32).toNatClampNeg) 0) : Int32).toNatClampNeg) ((5 * (cv S 222 ((r2 : Int32).toNatClampNeg) 0)) + 4 : Int32).toNatClampNeg) (fun S99 => Post S99)))))))))))))))))))) ∧ ((¬ (((cv S 222 ((r2 : Int32).toNatClampNeg) 0) : Int32) < r22)) → (∀ S101 : CST, S101 = cs S 127 0 (fun _ => 3) → (Post S101))))))))))))))))))
def zw_zd_X7_turn_w0 : List Cond := [.code yX7_latestFrame cX7_latestFrame 1 (some (.object "TemplateForge$Frame")), .fieldLink RX7 49 "TemplateForge$Machine" "open" "I", .fieldLink RX7 20 "TemplateForge$Machine" "frames" "[LTemplateForge$Frame;", .methodLink RX7 111 yX7_latestFrame, .instanceMethod yX7_latestFrame, .selects RX7 yX7_latestFrame yX7_latestFrame, .initialized RX7, .fieldLink RX7 53 "TemplateForge$Machine" "ending" "I", .fieldLink RX7 84 "TemplateForge$Frame" "program" "LTemplateForge$Program;", .fieldLink RX7 94 "TemplateForge$Frame" "code" "LTemplateForge$Code;", .fieldLink RX7 97 "TemplateForge$Frame" "place" "I", .code yX1_parts cX1_parts 1 (some .int), .fieldLink RX1 18 "TemplateForge$Code" "cells" "[I", .methodLink RX7 153 yX1_parts, .instanceMethod yX1_parts, .selects RX1 yX1_parts yX1_parts]
def zw_zd_X7_turn_w1 : List Cond := [.initialized RX1, .fieldLink RX7 159 "TemplateForge$Code" "cells" "[I", .code yX7_turnThatMayTrap cX7_turnThatMayTrap 7 none, .code yX4_valueOf cX4_valueOf 2 (some .int), .fieldLink RX4 9 "TemplateForge$Frame" "registers" "[I", .methodLink RX7 162 yX4_valueOf, .instanceMethod yX4_valueOf, .selects RX4 yX4_valueOf yX4_valueOf, .initialized RX4, .code yX11_reckoned cX11_reckoned 3 (some .int), .static yX11_reckoned, .initialized RX11, .code yX4_put cX4_put 3 none, .methodLink RX7 107 yX4_put, .instanceMethod yX4_put, .selects RX4 yX4_put yX4_put]
def zw_zd_X7_turn_w2 : List Cond := [.code yX7_endByTrap cX7_endByTrap 4 none, .fieldLink RX7 12 "TemplateForge$Machine" "tally" "LTemplateForge$Tally;", .fieldLink RX7 244 "TemplateForge$Program" "number" "I", .code yX10_noteTrap cX10_noteTrap 5 none, .fieldLink RX10 9 "TemplateForge$Tally" "trap" "[I", .methodLink RX7 247 yX10_noteTrap, .instanceMethod yX10_noteTrap, .selects RX10 yX10_noteTrap yX10_noteTrap, .initialized RX10, .methodLink RX7 205 yX7_endByTrap, .instanceMethod yX7_endByTrap, .selects RX7 yX7_endByTrap yX7_endByTrap, .code yX7_newRow cX7_newRow 5 none, .fieldLink RX7 32 "TemplateForge$Machine" "data" "LTemplateForge$Data;", .code yX2_renew cX2_renew 3 none, .fieldLink RX2 15 "TemplateForge$Data" "lengths" "[I"]
def zw_zd_X7_turn_w3 : List Cond := [.fieldLink RX2 18 "TemplateForge$Data" "items" "[I", .code yJ7_fill_fda19 cJ7_fill_fda19 5 none, .code yJ7_rangeCheck_23922 cJ7_rangeCheck_23922 3 none, .methodLink RJ7 13 yJ7_rangeCheck_23922, .static yJ7_rangeCheck_23922, .initialized RJ7, .methodLink RX2 27 yJ7_fill_fda19, .static yJ7_fill_fda19, .methodLink RX7 238 yX2_renew, .instanceMethod yX2_renew, .selects RX2 yX2_renew yX2_renew, .initialized RX2, .methodLink RX7 190 yX7_newRow, .instanceMethod yX7_newRow, .selects RX7 yX7_newRow yX7_newRow, .code yX7_isThere cX7_isThere 5 (some .boolean)]
def zw_zd_X7_turn_w4 : List Cond := [.code yX2_lengthOf cX2_lengthOf 2 (some .int), .methodLink RX7 241 yX2_lengthOf, .instanceMethod yX2_lengthOf, .selects RX2 yX2_lengthOf yX2_lengthOf, .methodLink RX7 193 yX7_isThere, .instanceMethod yX7_isThere, .selects RX7 yX7_isThere yX7_isThere, .code yX2_itemOf cX2_itemOf 3 (some .int), .methodLink RX2 30 yX2_lengthOf, .methodLink RX7 197 yX2_itemOf, .instanceMethod yX2_itemOf, .selects RX2 yX2_itemOf yX2_itemOf, .code yX2_putItem cX2_putItem 4 none, .methodLink RX7 201 yX2_putItem, .instanceMethod yX2_putItem, .selects RX2 yX2_putItem yX2_putItem]
def zw_zd_X7_turn_w5 : List Cond := [.methodLink RX7 186 yX7_turnThatMayTrap, .instanceMethod yX7_turnThatMayTrap, .selects RX7 yX7_turnThatMayTrap yX7_turnThatMayTrap, .code yX7_goTo cX7_goTo 4 none, .code yX1_startOf cX1_startOf 2 (some .int), .methodLink RX1 25 yX1_parts, .fieldLink RX1 22 "TemplateForge$Code" "starts" "[I", .methodLink RX7 212 yX1_startOf, .instanceMethod yX1_startOf, .selects RX1 yX1_startOf yX1_startOf, .code yX7_stepOn cX7_stepOn 1 none, .fieldLink RX7 150 "TemplateForge$Tally" "steps" "I", .methodLink RX7 78 yX7_stepOn, .instanceMethod yX7_stepOn, .selects RX7 yX7_stepOn yX7_stepOn, .methodLink RX7 166 yX7_goTo]
def zw_zd_X7_turn_w6 : List Cond := [.instanceMethod yX7_goTo, .selects RX7 yX7_goTo yX7_goTo, .code yX7_call cX7_call 6 none, .fieldLink RX7 56 "TemplateForge$Machine" "called" "I", .fieldLink RX7 59 "TemplateForge$Machine" "into" "I", .fieldLink RX7 24 "TemplateForge$Machine" "handed" "[I", .methodLink RX7 170 yX7_call, .instanceMethod yX7_call, .selects RX7 yX7_call yX7_call, .code yX7_giveBack cX7_giveBack 4 none, .fieldLink RX7 215 "TemplateForge$Tally" "returned" "I", .fieldLink RX7 100 "TemplateForge$Frame" "into" "I", .methodLink RX7 174 yX7_giveBack, .instanceMethod yX7_giveBack, .selects RX7 yX7_giveBack yX7_giveBack, .code yX2_valueOf cX2_valueOf 2 (some .int)]
def zw_zd_X7_turn_w7 : List Cond := [.fieldLink RX2 9 "TemplateForge$Data" "fields" "[I", .methodLink RX7 182 yX2_valueOf, .instanceMethod yX2_valueOf, .selects RX2 yX2_valueOf yX2_valueOf, .code yX2_put cX2_put 3 none, .methodLink RX7 185 yX2_put, .instanceMethod yX2_put, .selects RX2 yX2_put yX2_put, .code yX7_guard cX7_guard 8 none, .fieldLink RX7 115 "TemplateForge$Program" "heat" "LTemplateForge$Heat;", .fieldLink RX7 88 "TemplateForge$Program" "plain" "LTemplateForge$Code;", .fieldLink RX7 218 "TemplateForge$Tally" "failed" "I", .fieldLink RX7 221 "TemplateForge$Heat" "failed" "I", .code yX5_markVarying cX5_markVarying 2 none, .fieldLink RX5 19 "TemplateForge$Heat" "varying" "[Z", .methodLink RX7 222 yX5_markVarying]
def zw_zd_X7_turn_w8 : List Cond := [.instanceMethod yX5_markVarying, .selects RX5 yX5_markVarying yX5_markVarying, .initialized RX5, .fieldLink RX7 133 "TemplateForge$Heat" "hasCode" "Z", .fieldLink RX7 235 "TemplateForge$Code" "heads" "I", .fieldLink RX7 226 "TemplateForge$Heat" "made" "I", .fieldLink RX7 229 "TemplateForge$Code" "making" "I", .code yX5_throwAway cX5_throwAway 1 none, .fieldLink RX5 22 "TemplateForge$Heat" "hasCode" "Z", .fieldLink RX5 26 "TemplateForge$Heat" "counted" "I", .methodLink RX7 232 yX5_throwAway, .instanceMethod yX5_throwAway, .selects RX5 yX5_throwAway yX5_throwAway, .methodLink RX7 178 yX7_guard, .instanceMethod yX7_guard, .selects RX7 yX7_guard yX7_guard]
def zw_zd_X7_turn : List Cond := .code yX7_turn cX7_turn 9 none :: ((zw_zd_X7_turn_w0 ++ (zw_zd_X7_turn_w1 ++ (zw_zd_X7_turn_w2 ++ (zw_zd_X7_turn_w3 ++ (zw_zd_X7_turn_w4 ++ (zw_zd_X7_turn_w5 ++ (zw_zd_X7_turn_w6 ++ (zw_zd_X7_turn_w7 ++ (zw_zd_X7_turn_w8))))))))) ++ wsX70 ++ wsX40 ++ wsX10 ++ wsX80 ++ wsX100 ++ wsX20 ++ wsX50)
set_option maxRecDepth 100000 in
theorem zg_zd_X7_turn_zd_X7_latestFrame_111_a : GoodIn zw_zd_X7_turn [.methodLink RX7 111 yX7_latestFrame, .instanceMethod yX7_latestFrame, .selects RX7 yX7_latestFrame yX7_latestFrame, .initialized RX7] := goodIn_r _ [4, 5, 6, 7] rfl (by decide +kernel)
set_option maxRecDepth 100000 in
theorem zg_zd_X7_turn_zd_X7_latestFrame_111_c : GoodIn zw_zd_X7_turn [.code yX7_latestFrame cX7_latestFrame 1 (some (.object "TemplateForge$Frame"))] := goodIn_r _ [1] rfl (by decide +kernel)
set_option maxRecDepth 100000 in
theorem zg_zd_X7_turn_zd_X7_latestFrame_111_0 : GoodIn zw_zd_X7_turn zw_zd_X7_latestFrame_w0 := goodIn_r _ [2, 3] rfl (by decide +kernel)
theorem zg_zd_X7_turn_zd_X7_latestFrame_111 : GoodIn zw_zd_X7_turn (wsV RX7 111 RX7 yX7_latestFrame zw_zd_X7_latestFrame) := goodIn_app zg_zd_X7_turn_zd_X7_latestFrame_111_a (goodIn_ca (a := (zw_zd_X7_latestFrame_w0)) (show GoodIn zw_zd_X7_turn (.code yX7_latestFrame cX7_latestFrame 1 (some (.object "TemplateForge$Frame")) :: (zw_zd_X7_latestFrame_w0)) from goodIn_app zg_zd_X7_turn_zd_X7_latestFrame_111_c (zg_zd_X7_turn_zd_X7_latestFrame_111_0)) (fun w h => ⟨(fun _ h => List.mem_cons_of_mem _ (List.mem_append_left _ (List.mem_append_left _ (List.mem_append_left _ (List.mem_append_left _ (List.mem_append_left _ (List.mem_append_left _ (List.mem_append_right _ h)))))))) w h, good_of_word (List.all_eq_true.mp zgw_X7 w h)⟩))
set_option maxRecDepth 100000 in
theorem zg_zd_X7_turn_zd_X1_parts_153_a : GoodIn zw_zd_X7_turn [.methodLink RX7 153 yX1_parts, .instanceMethod yX1_parts, .selects RX1 yX1_parts yX1_parts, .initialized RX1] := goodIn_r _ [14, 15, 16, 17] rfl (by decide +kernel)
set_option maxRecDepth 100000 in
theorem zg_zd_X7_turn_zd_X1_parts_153_c : GoodIn zw_zd_X7_turn [.code yX1_parts cX1_parts 1 (some .int)] := goodIn_r _ [12] rfl (by decide +kernel)
set_option maxRecDepth 100000 in
theorem zg_zd_X7_turn_zd_X1_parts_153_0 : GoodIn zw_zd_X7_turn zw_zd_X1_parts_w0 := goodIn_r _ [13] rfl (by decide +kernel)
theorem zg_zd_X7_turn_zd_X1_parts_153 : GoodIn zw_zd_X7_turn (wsV RX7 153 RX1 yX1_parts zw_zd_X1_parts) := goodIn_app zg_zd_X7_turn_zd_X1_parts_153_a (goodIn_ca (a := (zw_zd_X1_parts_w0)) (show GoodIn zw_zd_X7_turn (.code yX1_parts cX1_parts 1 (some .int) :: (zw_zd_X1_parts_w0)) from goodIn_app zg_zd_X7_turn_zd_X1_parts_153_c (zg_zd_X7_turn_zd_X1_parts_153_0)) (fun w h => ⟨(fun _ h => List.mem_cons_of_mem _ (List.mem_append_left _ (List.mem_append_left _ (List.mem_append_left _ (List.mem_append_left _ (List.mem_append_right _ h)))))) w h, good_of_word (List.all_eq_true.mp zgw_X1 w h)⟩))
set_option maxRecDepth 100000 in
theorem zg_zd_X7_turn_zd_X7_turnThatMayTrap_186_a : GoodIn zw_zd_X7_turn [.methodLink RX7 186 yX7_turnThatMayTrap, .instanceMethod yX7_turnThatMayTrap, .selects RX7 yX7_turnThatMayTrap yX7_turnThatMayTrap, .initialized RX7] := goodIn_r _ [81, 82, 83, 7] rfl (by decide +kernel)
set_option maxRecDepth 100000 in
theorem zg_zd_X7_turn_zd_X7_turnThatMayTrap_186_c : GoodIn zw_zd_X7_turn [.code yX7_turnThatMayTrap cX7_turnThatMayTrap 7 none] := goodIn_r _ [19] rfl (by decide +kernel)
set_option maxRecDepth 100000 in
theorem zg_zd_X7_turn_zd_X7_turnThatMayTrap_186_0 : GoodIn zw_zd_X7_turn zw_zd_X7_turnThatMayTrap_w0 := goodIn_r _ [20, 21, 22, 23, 24, 25, 26, 27, 28, 29, 30, 31, 32, 33, 8, 34] rfl (by decide +kernel)
set_option maxRecDepth 100000 in
theorem zg_zd_X7_turn_zd_X7_turnThatMayTrap_186_1 : GoodIn zw_zd_X7_turn zw_zd_X7_turnThatMayTrap_w1 := goodIn_r _ [9, 35, 2, 36, 37, 38, 39, 40, 41, 42, 43, 44, 7, 45, 46, 47] rfl (by decide +kernel)
set_option maxRecDepth 100000 in
theorem zg_zd_X7_turn_zd_X7_turnThatMayTrap_186_2 : GoodIn zw_zd_X7_turn zw_zd_X7_turnThatMayTrap_w2 := goodIn_r _ [48, 49, 50, 51, 52, 53, 54, 55, 56, 57, 58, 59, 60, 61, 62, 63] rfl (by decide +kernel)
set_option maxRecDepth 100000 in
theorem zg_zd_X7_turn_zd_X7_turnThatMayTrap_186_3 : GoodIn zw_zd_X7_turn zw_zd_X7_turnThatMayTrap_w3 := goodIn_r _ [64, 65, 66, 67, 68, 69, 70, 71, 72, 73, 74, 75, 76, 77, 78, 79] rfl (by decide +kernel)
set_option maxRecDepth 100000 in
theorem zg_zd_X7_turn_zd_X7_turnThatMayTrap_186_4 : GoodIn zw_zd_X7_turn zw_zd_X7_turnThatMayTrap_w4 := goodIn_r _ [80] rfl (by decide +kernel)
theorem zg_zd_X7_turn_zd_X7_turnThatMayTrap_186 : GoodIn zw_zd_X7_turn (wsV RX7 186 RX7 yX7_turnThatMayTrap zw_zd_X7_turnThatMayTrap) := goodIn_app zg_zd_X7_turn_zd_X7_turnThatMayTrap_186_a (goodIn_ca (a := (((((zw_zd_X7_turnThatMayTrap_w0 ++ (zw_zd_X7_turnThatMayTrap_w1 ++ (zw_zd_X7_turnThatMayTrap_w2 ++ (zw_zd_X7_turnThatMayTrap_w3 ++ (zw_zd_X7_turnThatMayTrap_w4))))) ++ wsX40) ++ wsX70) ++ wsX80) ++ wsX100)) (goodIn_ca (a := ((((zw_zd_X7_turnThatMayTrap_w0 ++ (zw_zd_X7_turnThatMayTrap_w1 ++ (zw_zd_X7_turnThatMayTrap_w2 ++ (zw_zd_X7_turnThatMayTrap_w3 ++ (zw_zd_X7_turnThatMayTrap_w4))))) ++ wsX40) ++ wsX70) ++ wsX80)) (goodIn_ca (a := (((zw_zd_X7_turnThatMayTrap_w0 ++ (zw_zd_X7_turnThatMayTrap_w1 ++ (zw_zd_X7_turnThatMayTrap_w2 ++ (zw_zd_X7_turnThatMayTrap_w3 ++ (zw_zd_X7_turnThatMayTrap_w4))))) ++ wsX40) ++ wsX70)) (goodIn_ca (a := ((zw_zd_X7_turnThatMayTrap_w0 ++ (zw_zd_X7_turnThatMayTrap_w1 ++ (zw_zd_X7_turnThatMayTrap_w2 ++ (zw_zd_X7_turnThatMayTrap_w3 ++ (zw_zd_X7_turnThatMayTrap_w4))))) ++ wsX40)) (goodIn_ca (a := (zw_zd_X7_turnThatMayTrap_w0 ++ (zw_zd_X7_turnThatMayTrap_w1 ++ (zw_zd_X7_turnThatMayTrap_w2 ++ (zw_zd_X7_turnThatMayTrap_w3 ++ (zw_zd_X7_turnThatMayTrap_w4)))))) (show GoodIn zw_zd_X7_turn (.code yX7_turnThatMayTrap cX7_turnThatMayTrap 7 none :: (zw_zd_X7_turnThatMayTrap_w0 ++ (zw_zd_X7_turnThatMayTrap_w1 ++ (zw_zd_X7_turnThatMayTrap_w2 ++ (zw_zd_X7_turnThatMayTrap_w3 ++ (zw_zd_X7_turnThatMayTrap_w4)))))) from goodIn_app zg_zd_X7_turn_zd_X7_turnThatMayTrap_186_c (goodIn_app zg_zd_X7_turn_zd_X7_turnThatMayTrap_186_0 (goodIn_app zg_zd_X7_turn_zd_X7_turnThatMayTrap_186_1 (goodIn_app zg_zd_X7_turn_zd_X7_turnThatMayTrap_186_2 (goodIn_app zg_zd_X7_turn_zd_X7_turnThatMayTrap_186_3 (zg_zd_X7_turn_zd_X7_turnThatMayTrap_186_4)))))) (fun w h => ⟨(fun _ h => List.mem_cons_of_mem _ (List.mem_append_left _ (List.mem_append_left _ (List.mem_append_left _ (List.mem_append_left _ (List.mem_append_left _ (List.mem_append_right _ h))))))) w h, good_of_word (List.all_eq_true.mp zgw_X4 w h)⟩)) (fun w h => ⟨(fun _ h => List.mem_cons_of_mem _ (List.mem_append_left _ (List.mem_append_left _ (List.mem_append_left _ (List.mem_append_left _ (List.mem_append_left _ (List.mem_append_left _ (List.mem_append_right _ h)))))))) w h, good_of_word (List.all_eq_true.mp zgw_X7 w h)⟩)) (fun w h => ⟨(fun _ h => List.mem_cons_of_mem _ (List.mem_append_left _ (List.mem_append_left _ (List.mem_append_left _ (List.mem_append_right _ h))))) w h, good_of_word (List.all_eq_true.mp zgw_X8 w h)⟩)) (fun w h => ⟨(fun _ h => List.mem_cons_of_mem _ (List.mem_append_left _ (List.mem_append_left _ (List.mem_append_right _ h)))) w h, good_of_word (List.all_eq_true.mp zgw_X10 w h)⟩)) (fun w h => ⟨(fun _ h => List.mem_cons_of_mem _ (List.mem_append_left _ (List.mem_append_right _ h))) w h, good_of_word (List.all_eq_true.mp zgw_X2 w h)⟩))
set_option maxRecDepth 100000 in
theorem zg_zd_X7_turn_zd_X4_put_107_a : GoodIn zw_zd_X7_turn [.methodLink RX7 107 yX4_put, .instanceMethod yX4_put, .selects RX4 yX4_put yX4_put, .initialized RX4] := goodIn_r _ [30, 31, 32, 25] rfl (by decide +kernel)
set_option maxRecDepth 100000 in
theorem zg_zd_X7_turn_zd_X4_put_107_c : GoodIn zw_zd_X7_turn [.code yX4_put cX4_put 3 none] := goodIn_r _ [29] rfl (by decide +kernel)
set_option maxRecDepth 100000 in
theorem zg_zd_X7_turn_zd_X4_put_107_0 : GoodIn zw_zd_X7_turn zw_zd_X4_put_w0 := goodIn_r _ [21] rfl (by decide +kernel)
theorem zg_zd_X7_turn_zd_X4_put_107 : GoodIn zw_zd_X7_turn (wsV RX7 107 RX4 yX4_put zw_zd_X4_put) := goodIn_app zg_zd_X7_turn_zd_X4_put_107_a (goodIn_ca (a := (zw_zd_X4_put_w0)) (show GoodIn zw_zd_X7_turn (.code yX4_put cX4_put 3 none :: (zw_zd_X4_put_w0)) from goodIn_app zg_zd_X7_turn_zd_X4_put_107_c (zg_zd_X7_turn_zd_X4_put_107_0)) (fun w h => ⟨(fun _ h => List.mem_cons_of_mem _ (List.mem_append_left _ (List.mem_append_left _ (List.mem_append_left _ (List.mem_append_left _ (List.mem_append_left _ (List.mem_append_right _ h))))))) w h, good_of_word (List.all_eq_true.mp zgw_X4 w h)⟩))
set_option maxRecDepth 100000 in
theorem zg_zd_X7_turn_zd_X4_valueOf_162_a : GoodIn zw_zd_X7_turn [.methodLink RX7 162 yX4_valueOf, .instanceMethod yX4_valueOf, .selects RX4 yX4_valueOf yX4_valueOf, .initialized RX4] := goodIn_r _ [22, 23, 24, 25] rfl (by decide +kernel)
set_option maxRecDepth 100000 in
theorem zg_zd_X7_turn_zd_X4_valueOf_162_c : GoodIn zw_zd_X7_turn [.code yX4_valueOf cX4_valueOf 2 (some .int)] := goodIn_r _ [20] rfl (by decide +kernel)
set_option maxRecDepth 100000 in
theorem zg_zd_X7_turn_zd_X4_valueOf_162_0 : GoodIn zw_zd_X7_turn zw_zd_X4_valueOf_w0 := goodIn_r _ [21] rfl (by decide +kernel)
theorem zg_zd_X7_turn_zd_X4_valueOf_162 : GoodIn zw_zd_X7_turn (wsV RX7 162 RX4 yX4_valueOf zw_zd_X4_valueOf) := goodIn_app zg_zd_X7_turn_zd_X4_valueOf_162_a (goodIn_ca (a := (zw_zd_X4_valueOf_w0)) (show GoodIn zw_zd_X7_turn (.code yX4_valueOf cX4_valueOf 2 (some .int) :: (zw_zd_X4_valueOf_w0)) from goodIn_app zg_zd_X7_turn_zd_X4_valueOf_162_c (zg_zd_X7_turn_zd_X4_valueOf_162_0)) (fun w h => ⟨(fun _ h => List.mem_cons_of_mem _ (List.mem_append_left _ (List.mem_append_left _ (List.mem_append_left _ (List.mem_append_left _ (List.mem_append_left _ (List.mem_append_right _ h))))))) w h, good_of_word (List.all_eq_true.mp zgw_X4 w h)⟩))
set_option maxRecDepth 100000 in
theorem zg_zd_X7_turn_zd_X7_goTo_166_a : GoodIn zw_zd_X7_turn [.methodLink RX7 166 yX7_goTo, .instanceMethod yX7_goTo, .selects RX7 yX7_goTo yX7_goTo, .initialized RX7] := goodIn_r _ [96, 97, 98, 7] rfl (by decide +kernel)
set_option maxRecDepth 100000 in
theorem zg_zd_X7_turn_zd_X7_goTo_166_c : GoodIn zw_zd_X7_turn [.code yX7_goTo cX7_goTo 4 none] := goodIn_r _ [84] rfl (by decide +kernel)
set_option maxRecDepth 100000 in
theorem zg_zd_X7_turn_zd_X7_goTo_166_0 : GoodIn zw_zd_X7_turn zw_zd_X7_goTo_w0 := goodIn_r _ [10, 85, 12, 13, 86, 15, 16, 17, 87, 88, 89, 90, 11, 91, 34, 92] rfl (by decide +kernel)
set_option maxRecDepth 100000 in
theorem zg_zd_X7_turn_zd_X7_goTo_166_1 : GoodIn zw_zd_X7_turn zw_zd_X7_goTo_w1 := goodIn_r _ [8, 93, 94, 95, 7] rfl (by decide +kernel)
theorem zg_zd_X7_turn_zd_X7_goTo_166 : GoodIn zw_zd_X7_turn (wsV RX7 166 RX7 yX7_goTo zw_zd_X7_goTo) := goodIn_app zg_zd_X7_turn_zd_X7_goTo_166_a (goodIn_ca (a := ((((zw_zd_X7_goTo_w0 ++ (zw_zd_X7_goTo_w1)) ++ wsX40) ++ wsX10) ++ wsX70)) (goodIn_ca (a := (((zw_zd_X7_goTo_w0 ++ (zw_zd_X7_goTo_w1)) ++ wsX40) ++ wsX10)) (goodIn_ca (a := ((zw_zd_X7_goTo_w0 ++ (zw_zd_X7_goTo_w1)) ++ wsX40)) (goodIn_ca (a := (zw_zd_X7_goTo_w0 ++ (zw_zd_X7_goTo_w1))) (show GoodIn zw_zd_X7_turn (.code yX7_goTo cX7_goTo 4 none :: (zw_zd_X7_goTo_w0 ++ (zw_zd_X7_goTo_w1))) from goodIn_app zg_zd_X7_turn_zd_X7_goTo_166_c (goodIn_app zg_zd_X7_turn_zd_X7_goTo_166_0 (zg_zd_X7_turn_zd_X7_goTo_166_1))) (fun w h => ⟨(fun _ h => List.mem_cons_of_mem _ (List.mem_append_left _ (List.mem_append_left _ (List.mem_append_left _ (List.mem_append_left _ (List.mem_append_left _ (List.mem_append_right _ h))))))) w h, good_of_word (List.all_eq_true.mp zgw_X4 w h)⟩)) (fun w h => ⟨(fun _ h => List.mem_cons_of_mem _ (List.mem_append_left _ (List.mem_append_left _ (List.mem_append_left _ (List.mem_append_left _ (List.mem_append_right _ h)))))) w h, good_of_word (List.all_eq_true.mp zgw_X1 w h)⟩)) (fun w h => ⟨(fun _ h => List.mem_cons_of_mem _ (List.mem_append_left _ (List.mem_append_left _ (List.mem_append_left _ (List.mem_append_left _ (List.mem_append_left _ (List.mem_append_left _ (List.mem_append_right _ h)))))))) w h, good_of_word (List.all_eq_true.mp zgw_X7 w h)⟩)) (fun w h => ⟨(fun _ h => List.mem_cons_of_mem _ (List.mem_append_left _ (List.mem_append_left _ (List.mem_append_right _ h)))) w h, good_of_word (List.all_eq_true.mp zgw_X10 w h)⟩))
set_option maxRecDepth 100000 in
theorem zg_zd_X7_turn_zd_X7_call_170_a : GoodIn zw_zd_X7_turn [.methodLink RX7 170 yX7_call, .instanceMethod yX7_call, .selects RX7 yX7_call yX7_call, .initialized RX7] := goodIn_r _ [103, 104, 105, 7] rfl (by decide +kernel)
set_option maxRecDepth 100000 in
theorem zg_zd_X7_turn_zd_X7_call_170_c : GoodIn zw_zd_X7_turn [.code yX7_call cX7_call 6 none] := goodIn_r _ [99] rfl (by decide +kernel)
set_option maxRecDepth 100000 in
theorem zg_zd_X7_turn_zd_X7_call_170_0 : GoodIn zw_zd_X7_turn zw_zd_X7_call_w0 := goodIn_r _ [2, 100, 101, 102, 20, 21, 22, 23, 24, 25, 33, 8, 34, 9, 35, 36] rfl (by decide +kernel)
set_option maxRecDepth 100000 in
theorem zg_zd_X7_turn_zd_X7_call_170_1 : GoodIn zw_zd_X7_turn zw_zd_X7_call_w1 := goodIn_r _ [37, 38, 39, 40, 41, 42, 43, 44, 7] rfl (by decide +kernel)
theorem zg_zd_X7_turn_zd_X7_call_170 : GoodIn zw_zd_X7_turn (wsV RX7 170 RX7 yX7_call zw_zd_X7_call) := goodIn_app zg_zd_X7_turn_zd_X7_call_170_a (goodIn_ca (a := ((((zw_zd_X7_call_w0 ++ (zw_zd_X7_call_w1)) ++ wsX70) ++ wsX40) ++ wsX80)) (goodIn_ca (a := (((zw_zd_X7_call_w0 ++ (zw_zd_X7_call_w1)) ++ wsX70) ++ wsX40)) (goodIn_ca (a := ((zw_zd_X7_call_w0 ++ (zw_zd_X7_call_w1)) ++ wsX70)) (goodIn_ca (a := (zw_zd_X7_call_w0 ++ (zw_zd_X7_call_w1))) (show GoodIn zw_zd_X7_turn (.code yX7_call cX7_call 6 none :: (zw_zd_X7_call_w0 ++ (zw_zd_X7_call_w1))) from goodIn_app zg_zd_X7_turn_zd_X7_call_170_c (goodIn_app zg_zd_X7_turn_zd_X7_call_170_0 (zg_zd_X7_turn_zd_X7_call_170_1))) (fun w h => ⟨(fun _ h => List.mem_cons_of_mem _ (List.mem_append_left _ (List.mem_append_left _ (List.mem_append_left _ (List.mem_append_left _ (List.mem_append_left _ (List.mem_append_left _ (List.mem_append_right _ h)))))))) w h, good_of_word (List.all_eq_true.mp zgw_X7 w h)⟩)) (fun w h => ⟨(fun _ h => List.mem_cons_of_mem _ (List.mem_append_left _ (List.mem_append_left _ (List.mem_append_left _ (List.mem_append_left _ (List.mem_append_left _ (List.mem_append_right _ h))))))) w h, good_of_word (List.all_eq_true.mp zgw_X4 w h)⟩)) (fun w h => ⟨(fun _ h => List.mem_cons_of_mem _ (List.mem_append_left _ (List.mem_append_left _ (List.mem_append_left _ (List.mem_append_right _ h))))) w h, good_of_word (List.all_eq_true.mp zgw_X8 w h)⟩)) (fun w h => ⟨(fun _ h => List.mem_cons_of_mem _ (List.mem_append_left _ (List.mem_append_left _ (List.mem_append_right _ h)))) w h, good_of_word (List.all_eq_true.mp zgw_X10 w h)⟩))
set_option maxRecDepth 100000 in
theorem zg_zd_X7_turn_zd_X7_giveBack_174_a : GoodIn zw_zd_X7_turn [.methodLink RX7 174 yX7_giveBack, .instanceMethod yX7_giveBack, .selects RX7 yX7_giveBack yX7_giveBack, .initialized RX7] := goodIn_r _ [109, 110, 111, 7] rfl (by decide +kernel)
set_option maxRecDepth 100000 in
theorem zg_zd_X7_turn_zd_X7_giveBack_174_c : GoodIn zw_zd_X7_turn [.code yX7_giveBack cX7_giveBack 4 none] := goodIn_r _ [106] rfl (by decide +kernel)
set_option maxRecDepth 100000 in
theorem zg_zd_X7_turn_zd_X7_giveBack_174_0 : GoodIn zw_zd_X7_turn zw_zd_X7_giveBack_w0 := goodIn_r _ [2, 1, 3, 4, 5, 6, 7, 34, 107, 8, 108, 29, 21, 30, 31, 32] rfl (by decide +kernel)
set_option maxRecDepth 100000 in
theorem zg_zd_X7_turn_zd_X7_giveBack_174_1 : GoodIn zw_zd_X7_turn zw_zd_X7_giveBack_w1 := goodIn_r _ [25] rfl (by decide +kernel)
theorem zg_zd_X7_turn_zd_X7_giveBack_174 : GoodIn zw_zd_X7_turn (wsV RX7 174 RX7 yX7_giveBack zw_zd_X7_giveBack) := goodIn_app zg_zd_X7_turn_zd_X7_giveBack_174_a (goodIn_ca (a := (((zw_zd_X7_giveBack_w0 ++ (zw_zd_X7_giveBack_w1)) ++ wsX70) ++ wsX100)) (goodIn_ca (a := ((zw_zd_X7_giveBack_w0 ++ (zw_zd_X7_giveBack_w1)) ++ wsX70)) (goodIn_ca (a := (zw_zd_X7_giveBack_w0 ++ (zw_zd_X7_giveBack_w1))) (show GoodIn zw_zd_X7_turn (.code yX7_giveBack cX7_giveBack 4 none :: (zw_zd_X7_giveBack_w0 ++ (zw_zd_X7_giveBack_w1))) from goodIn_app zg_zd_X7_turn_zd_X7_giveBack_174_c (goodIn_app zg_zd_X7_turn_zd_X7_giveBack_174_0 (zg_zd_X7_turn_zd_X7_giveBack_174_1))) (fun w h => ⟨(fun _ h => List.mem_cons_of_mem _ (List.mem_append_left _ (List.mem_append_left _ (List.mem_append_left _ (List.mem_append_left _ (List.mem_append_left _ (List.mem_append_left _ (List.mem_append_right _ h)))))))) w h, good_of_word (List.all_eq_true.mp zgw_X7 w h)⟩)) (fun w h => ⟨(fun _ h => List.mem_cons_of_mem _ (List.mem_append_left _ (List.mem_append_left _ (List.mem_append_right _ h)))) w h, good_of_word (List.all_eq_true.mp zgw_X10 w h)⟩)) (fun w h => ⟨(fun _ h => List.mem_cons_of_mem _ (List.mem_append_left _ (List.mem_append_left _ (List.mem_append_left _ (List.mem_append_left _ (List.mem_append_left _ (List.mem_append_right _ h))))))) w h, good_of_word (List.all_eq_true.mp zgw_X4 w h)⟩))
set_option maxRecDepth 100000 in
theorem zg_zd_X7_turn_zd_X2_valueOf_182_a : GoodIn zw_zd_X7_turn [.methodLink RX7 182 yX2_valueOf, .instanceMethod yX2_valueOf, .selects RX2 yX2_valueOf yX2_valueOf, .initialized RX2] := goodIn_r _ [114, 115, 116, 60] rfl (by decide +kernel)
set_option maxRecDepth 100000 in
theorem zg_zd_X7_turn_zd_X2_valueOf_182_c : GoodIn zw_zd_X7_turn [.code yX2_valueOf cX2_valueOf 2 (some .int)] := goodIn_r _ [112] rfl (by decide +kernel)
set_option maxRecDepth 100000 in
theorem zg_zd_X7_turn_zd_X2_valueOf_182_0 : GoodIn zw_zd_X7_turn zw_zd_X2_valueOf_w0 := goodIn_r _ [113] rfl (by decide +kernel)
theorem zg_zd_X7_turn_zd_X2_valueOf_182 : GoodIn zw_zd_X7_turn (wsV RX7 182 RX2 yX2_valueOf zw_zd_X2_valueOf) := goodIn_app zg_zd_X7_turn_zd_X2_valueOf_182_a (goodIn_ca (a := (zw_zd_X2_valueOf_w0)) (show GoodIn zw_zd_X7_turn (.code yX2_valueOf cX2_valueOf 2 (some .int) :: (zw_zd_X2_valueOf_w0)) from goodIn_app zg_zd_X7_turn_zd_X2_valueOf_182_c (zg_zd_X7_turn_zd_X2_valueOf_182_0)) (fun w h => ⟨(fun _ h => List.mem_cons_of_mem _ (List.mem_append_left _ (List.mem_append_right _ h))) w h, good_of_word (List.all_eq_true.mp zgw_X2 w h)⟩))
set_option maxRecDepth 100000 in
theorem zg_zd_X7_turn_zd_X2_put_185_a : GoodIn zw_zd_X7_turn [.methodLink RX7 185 yX2_put, .instanceMethod yX2_put, .selects RX2 yX2_put yX2_put, .initialized RX2] := goodIn_r _ [118, 119, 120, 60] rfl (by decide +kernel)
set_option maxRecDepth 100000 in
theorem zg_zd_X7_turn_zd_X2_put_185_c : GoodIn zw_zd_X7_turn [.code yX2_put cX2_put 3 none] := goodIn_r _ [117] rfl (by decide +kernel)
set_option maxRecDepth 100000 in
theorem zg_zd_X7_turn_zd_X2_put_185_0 : GoodIn zw_zd_X7_turn zw_zd_X2_put_w0 := goodIn_r _ [113] rfl (by decide +kernel)
theorem zg_zd_X7_turn_zd_X2_put_185 : GoodIn zw_zd_X7_turn (wsV RX7 185 RX2 yX2_put zw_zd_X2_put) := goodIn_app zg_zd_X7_turn_zd_X2_put_185_a (goodIn_ca (a := (zw_zd_X2_put_w0)) (show GoodIn zw_zd_X7_turn (.code yX2_put cX2_put 3 none :: (zw_zd_X2_put_w0)) from goodIn_app zg_zd_X7_turn_zd_X2_put_185_c (zg_zd_X7_turn_zd_X2_put_185_0)) (fun w h => ⟨(fun _ h => List.mem_cons_of_mem _ (List.mem_append_left _ (List.mem_append_right _ h))) w h, good_of_word (List.all_eq_true.mp zgw_X2 w h)⟩))
set_option maxRecDepth 100000 in
theorem zg_zd_X7_turn_zd_X7_guard_178_a : GoodIn zw_zd_X7_turn [.methodLink RX7 178 yX7_guard, .instanceMethod yX7_guard, .selects RX7 yX7_guard yX7_guard, .initialized RX7] := goodIn_r _ [142, 143, 144, 7] rfl (by decide +kernel)
set_option maxRecDepth 100000 in
theorem zg_zd_X7_turn_zd_X7_guard_178_c : GoodIn zw_zd_X7_turn [.code yX7_guard cX7_guard 8 none] := goodIn_r _ [121] rfl (by decide +kernel)
set_option maxRecDepth 100000 in
theorem zg_zd_X7_turn_zd_X7_guard_178_0 : GoodIn zw_zd_X7_turn zw_zd_X7_guard_w0 := goodIn_r _ [9, 122, 123, 34, 124, 125, 126, 127, 128, 129, 130, 131, 132, 11, 10, 133] rfl (by decide +kernel)
set_option maxRecDepth 100000 in
theorem zg_zd_X7_turn_zd_X7_guard_178_1 : GoodIn zw_zd_X7_turn zw_zd_X7_guard_w1 := goodIn_r _ [134, 135, 136, 137, 138, 139, 140, 141, 85, 12, 13, 86, 15, 16, 17, 87] rfl (by decide +kernel)
set_option maxRecDepth 100000 in
theorem zg_zd_X7_turn_zd_X7_guard_178_2 : GoodIn zw_zd_X7_turn zw_zd_X7_guard_w2 := goodIn_r _ [88, 89, 90] rfl (by decide +kernel)
theorem zg_zd_X7_turn_zd_X7_guard_178 : GoodIn zw_zd_X7_turn (wsV RX7 178 RX7 yX7_guard zw_zd_X7_guard) := goodIn_app zg_zd_X7_turn_zd_X7_guard_178_a (goodIn_ca (a := ((((((zw_zd_X7_guard_w0 ++ (zw_zd_X7_guard_w1 ++ (zw_zd_X7_guard_w2))) ++ wsX40) ++ wsX80) ++ wsX70) ++ wsX100) ++ wsX50)) (goodIn_ca (a := (((((zw_zd_X7_guard_w0 ++ (zw_zd_X7_guard_w1 ++ (zw_zd_X7_guard_w2))) ++ wsX40) ++ wsX80) ++ wsX70) ++ wsX100)) (goodIn_ca (a := ((((zw_zd_X7_guard_w0 ++ (zw_zd_X7_guard_w1 ++ (zw_zd_X7_guard_w2))) ++ wsX40) ++ wsX80) ++ wsX70)) (goodIn_ca (a := (((zw_zd_X7_guard_w0 ++ (zw_zd_X7_guard_w1 ++ (zw_zd_X7_guard_w2))) ++ wsX40) ++ wsX80)) (goodIn_ca (a := ((zw_zd_X7_guard_w0 ++ (zw_zd_X7_guard_w1 ++ (zw_zd_X7_guard_w2))) ++ wsX40)) (goodIn_ca (a := (zw_zd_X7_guard_w0 ++ (zw_zd_X7_guard_w1 ++ (zw_zd_X7_guard_w2)))) (show GoodIn zw_zd_X7_turn (.code yX7_guard cX7_guard 8 none :: (zw_zd_X7_guard_w0 ++ (zw_zd_X7_guard_w1 ++ (zw_zd_X7_guard_w2)))) from goodIn_app zg_zd_X7_turn_zd_X7_guard_178_c (goodIn_app zg_zd_X7_turn_zd_X7_guard_178_0 (goodIn_app zg_zd_X7_turn_zd_X7_guard_178_1 (zg_zd_X7_turn_zd_X7_guard_178_2)))) (fun w h => ⟨(fun _ h => List.mem_cons_of_mem _ (List.mem_append_left _ (List.mem_append_left _ (List.mem_append_left _ (List.mem_append_left _ (List.mem_append_left _ (List.mem_append_right _ h))))))) w h, good_of_word (List.all_eq_true.mp zgw_X4 w h)⟩)) (fun w h => ⟨(fun _ h => List.mem_cons_of_mem _ (List.mem_append_left _ (List.mem_append_left _ (List.mem_append_left _ (List.mem_append_right _ h))))) w h, good_of_word (List.all_eq_true.mp zgw_X8 w h)⟩)) (fun w h => ⟨(fun _ h => List.mem_cons_of_mem _ (List.mem_append_left _ (List.mem_append_left _ (List.mem_append_left _ (List.mem_append_left _ (List.mem_append_left _ (List.mem_append_left _ (List.mem_append_right _ h)))))))) w h, good_of_word (List.all_eq_true.mp zgw_X7 w h)⟩)) (fun w h => ⟨(fun _ h => List.mem_cons_of_mem _ (List.mem_append_left _ (List.mem_append_left _ (List.mem_append_right _ h)))) w h, good_of_word (List.all_eq_true.mp zgw_X10 w h)⟩)) (fun w h => ⟨(fun _ h => List.mem_cons_of_mem _ (List.mem_append_right _ h)) w h, good_of_word (List.all_eq_true.mp zgw_X5 w h)⟩)) (fun w h => ⟨(fun _ h => List.mem_cons_of_mem _ (List.mem_append_left _ (List.mem_append_left _ (List.mem_append_left _ (List.mem_append_left _ (List.mem_append_right _ h)))))) w h, good_of_word (List.all_eq_true.mp zgw_X1 w h)⟩))
set_option maxHeartbeats 16000000 in
set_option maxRecDepth 100000 in
theorem zd_X7_turn (l : Launch) (D : va_G) (cI cZ cP cF : Nat) (q : Nat → Nat → Nat) (S : CST) (sz : Nat) (Post : CST → Prop) (h : wp_X7_turn S Post) : Met l yX7_turn zw_zd_X7_turn ({ frames := 5, cells := 0, slots := 0, locals := 118 }) (va_Pc [.ref (q 12 0)] (fun U => U.heap.size = sz ∧ va_P D vwCl (cW cI cZ cP cF q S) U.heap ∧ zF D cI cZ cP cF U ∧ va_D (fun _ => True) (cW cI cZ cP cF q S))) (va_Qv (fun S' => Post S') (fun (S' : CST) t => va_P D vwCl (cW cI cZ cP cF q S') t.heap ∧ va_D (va_A (cW cI cZ cP cF q S) sz) (cW cI cZ cP cF q S') ∧ S'.2 = S.2) (va_A (cW cI cZ cP cF q S) sz)) 0 0 (va_A (cW cI cZ cP cF q S) sz) := by
  unfold wp_X7_turn at h
  refine Met.ofW (cc := cX7_turn) (maxL := 9) (ret := none) (by decide) rfl ?_
  intro p e s m args below meth c s₁ B hml hv
  obtain ⟨rfl, hsz, hP, hE, hD0⟩ := hv
  have hx := B.exec
  have hb := B.bytes
  have hr := B.returns
  have hts := atoms_spec (ws := zw_zd_X7_turn) B.pre
  have hown : s.vm.findClass RX7 = some m.cls := findClass_of_methodNamed B.named
  have hlocks := B.notSynchronized
  have hK := hE.k
  subst hsz
  have hD := hD0.self (sz := s.heap.size)
  generalize hAe : va_A (cW cI cZ cP cF q S) s.heap.size = A at hD ⊢
  have hA : ∀ q : Nat, s.heap.size ≤ q → A q := fun q h => by rw [← hAe]; exact Or.inr h
  have hN : S.2 = S.2 := rfl
  have hl := lv_entry ([.ref (q 12 0)]) (n := 9) (Nat.le_of_ble_eq_true rfl)
  rw [lg_entry_eq]
  generalize (lg_sl ([.ref (q 12 0)]) ++ List.replicate (9 - (lg_sl ([.ref (q 12 0)])).length) Slot.unset).toArray = ls at hl ⊢
  have hl : lv_has ls 9 [(0, .ref (q 12 0))] := hl
  have key : ∀ (H : Heap) (locs : List Loc), va_P D vwCl (cW cI cZ cP cF q S) H → va_S A s.heap H locs → W p l e (headSpec zw_zd_X7_turn ({ frames := 5, cells := 0, slots := 0, locals := 118 })).room s m ([.ref (q 12 0)] : List Value).toArray below meth c H locs 0 0 (MQ below (va_Qv (fun S' => Post S') (fun (S' : CST) t => va_P D vwCl (cW cI cZ cP cF q S') t.heap ∧ va_D A (cW cI cZ cP cF q S') ∧ S'.2 = S.2) A) ([.ref (q 12 0)] : List Value).toArray s 0 0 A) (F0 m 0 ls []) := by
    intro H locs hP hS
    refine lv_aload_n hx hb dX7_turn_0 rfl (lv_at hl 0 rfl) ?_
    obtain ⟨p_1, hp_1⟩ := cget_12 cI cZ cP cF q S
    have hi_1 : cin S 12 0 := Or.inl ⟨by decide, rfl⟩
    refine va_csq (va_Run.run (va_runV (As := []) (rest := []) ⟨hx, hb, hml, hown, hts⟩ (zd_X7_latestFrame l D cI cZ cP cF q S   _ h) (cwV 0 hts zg_zd_X7_turn_zd_X7_latestFrame_111 rfl rfl rfl (by decide +kernel) ⟨Nat.le_of_ble_eq_true rfl, Nat.le_of_ble_eq_true rfl⟩) ⟨zCR, va_recv hK hP (ci := 7) (q0 := p_1) rfl hp_1, fun U hU hW => ⟨rfl, by rw [hU]; exact hP, hE.warm hW⟩⟩ rfl rfl hl.1 rfl (lv_room (Nat.le_of_ble_eq_true rfl)) dX7_turn_1 ⟨Nat.le_of_ble_eq_true rfl, Nat.le_of_ble_eq_true rfl⟩)) (fun o_2 ho_2 => ?_)
    obtain ⟨r2, rfl, h⟩ := ho_2
    by_cases hn_3 : r2 < 0
    · have h := h.1 hn_3
      rw [show va_rf (cno q 22 r2) = .null from cn_neg hn_3]
      refine lv_astore_nN (lv' := [(1, .null), (0, .ref (q 12 0))]) hx hb dX7_turn_4 rfl hl (by decide) rfl (fun ls hl => ?_)
      refine lv_aload_nN hx hb dX7_turn_5 rfl (lv_at hl 0 rfl) ?_
      refine lv_ifnullN (tgt := 44) hx hb dX7_turn_6 (by decide) ?_
      refine lv_aload_n hx hb dX7_turn_44 rfl (lv_at hl 1 rfl) ?_
      refine lv_iconst (v := 3) hx hb dX7_turn_45 (by decide) ?_
      obtain ⟨p_4, hp_4⟩ := cget_12 cI cZ cP cF q S
      have hi_4 : cin S 12 0 := Or.inl ⟨by decide, rfl⟩
      have hD0_4 := hD
      refine va_put (D := D) (ci := 7) (v := .int 3) (ty := .int) (C := RX7) (T := TX7) (N := 10) hx hb hts (fun _ h => List.mem_cons_of_mem _ (List.mem_append_left _ (List.mem_append_left _ (List.mem_append_left _ (List.mem_append_left _ (List.mem_append_left _ (List.mem_append_left _ (List.mem_append_right _ h)))))))) tyX7 tyX7_ok nmX7 hown hK hP hD hS p_4 hp_4 rfl 7 (by decide) (hts (.fieldLink RX7 53 "TemplateForge$Machine" "ending" "I") (List.mem_of_getElem? (i := 8) rfl)) (fun _ h9 => h9) rfl (by decide +kernel) rfl rfl (Nat.le_of_ble_eq_true rfl) dX7_turn_46 (fun H locs hP hD hS => ?_)
      obtain ⟨S5, eS5⟩ : ∃ z, z = cs S 127 0 (fun _ => 3) := ⟨_, rfl⟩
      have hP : va_P D vwCl (cW cI cZ cP cF q S5) H := by rw [eS5, ← cW_put (k := 127) (κ := 12) (i := 0) (g := (fun _ => 3)) rfl hD0_4 hp_4 hi_4, cput_127]; exact hP
      have hD : va_D A (cW cI cZ cP cF q S5) := by rw [eS5, ← cW_put (k := 127) (κ := 12) (i := 0) (g := (fun _ => 3)) rfl hD0_4 hp_4 hi_4, cput_127]; exact hD
      have hN : S5.2 = S.2 := by rw [eS5]; exact hN
      have h := h S5 eS5
      exact W.vret hx hb hr (fun t ht hW => ⟨⟨S5, rfl, h, by rw [ht]; exact hP, hD, hN⟩, hS.F ht⟩) hS.2.2 dX7_turn_49
    · have h := h.2 hn_3
      rw [show va_rf (cno q 22 r2) = .ref (q 22 (r2 : Int32).toNatClampNeg) from cn_pos hn_3]
      refine lv_astore_n (lv' := [(1, .ref (q 22 ((r2 : Int32).toNatClampNeg))), (0, .ref (q 12 0))]) hx hb dX7_turn_4 rfl hl (by decide) rfl (fun ls hl => ?_)
      refine lv_aload_n hx hb dX7_turn_5 rfl (lv_at hl 0 rfl) ?_
      refine lv_ifnull hx hb dX7_turn_6 ?_
      refine lv_aload_n hx hb dX7_turn_9 rfl (lv_at hl 0 rfl) ?_
      have hi_6 := h.1
      have h := h.2
      obtain ⟨p_6, hp_6⟩ := cget_22 cI cZ cP cF q S hi_6
      by_cases hn_7 : (cv S 220 ((r2 : Int32).toNatClampNeg) 0) < 0
      · have h := h.1 hn_7
        refine va_get (D := D) (ci := 4) (v := .null) (C := RX4) (T := TX4) (N := 5) hx hb hts (fun _ h => List.mem_cons_of_mem _ (List.mem_append_left _ (List.mem_append_left _ (List.mem_append_left _ (List.mem_append_left _ (List.mem_append_left _ (List.mem_append_right _ h))))))) hown hK hP p_6 hp_6 rfl 0 (by decide) (hts (.fieldLink RX7 84 "TemplateForge$Frame" "program" "LTemplateForge$Program;") (List.mem_of_getElem? (i := 9) rfl)) (fun _ h9 => h9) (congrArg some (cn_neg hn_7)) dX7_turn_10 ?_
        refine lv_ifnullN (tgt := 44) hx hb dX7_turn_13 (by decide) ?_
        refine lv_aload_n hx hb dX7_turn_44 rfl (lv_at hl 1 rfl) ?_
        refine lv_iconst (v := 3) hx hb dX7_turn_45 (by decide) ?_
        obtain ⟨p_8, hp_8⟩ := cget_12 cI cZ cP cF q S
        have hi_8 : cin S 12 0 := Or.inl ⟨by decide, rfl⟩
        have hD0_8 := hD
        refine va_put (D := D) (ci := 7) (v := .int 3) (ty := .int) (C := RX7) (T := TX7) (N := 10) hx hb hts (fun _ h => List.mem_cons_of_mem _ (List.mem_append_left _ (List.mem_append_left _ (List.mem_append_left _ (List.mem_append_left _ (List.mem_append_left _ (List.mem_append_left _ (List.mem_append_right _ h)))))))) tyX7 tyX7_ok nmX7 hown hK hP hD hS p_8 hp_8 rfl 7 (by decide) (hts (.fieldLink RX7 53 "TemplateForge$Machine" "ending" "I") (List.mem_of_getElem? (i := 8) rfl)) (fun _ h9 => h9) rfl (by decide +kernel) rfl rfl (Nat.le_of_ble_eq_true rfl) dX7_turn_46 (fun H locs hP hD hS => ?_)
        obtain ⟨S9, eS9⟩ : ∃ z, z = cs S 127 0 (fun _ => 3) := ⟨_, rfl⟩
        have hP : va_P D vwCl (cW cI cZ cP cF q S9) H := by rw [eS9, ← cW_put (k := 127) (κ := 12) (i := 0) (g := (fun _ => 3)) rfl hD0_8 hp_8 hi_8, cput_127]; exact hP
        have hD : va_D A (cW cI cZ cP cF q S9) := by rw [eS9, ← cW_put (k := 127) (κ := 12) (i := 0) (g := (fun _ => 3)) rfl hD0_8 hp_8 hi_8, cput_127]; exact hD
        have hN : S9.2 = S.2 := by rw [eS9]; exact hN
        have h := h S9 eS9
        exact W.vret hx hb hr (fun t ht hW => ⟨⟨S9, rfl, h, by rw [ht]; exact hP, hD, hN⟩, hS.F ht⟩) hS.2.2 dX7_turn_49
      · have h := h.2 hn_7
        refine va_get (D := D) (ci := 4) (v := .ref (q 24 ((cv S 220 ((r2 : Int32).toNatClampNeg) 0) : Int32).toNatClampNeg)) (C := RX4) (T := TX4) (N := 5) hx hb hts (fun _ h => List.mem_cons_of_mem _ (List.mem_append_left _ (List.mem_append_left _ (List.mem_append_left _ (List.mem_append_left _ (List.mem_append_left _ (List.mem_append_right _ h))))))) hown hK hP p_6 hp_6 rfl 0 (by decide) (hts (.fieldLink RX7 84 "TemplateForge$Frame" "program" "LTemplateForge$Program;") (List.mem_of_getElem? (i := 9) rfl)) (fun _ h9 => h9) (congrArg some (cn_pos hn_7)) dX7_turn_10 ?_
        refine lv_ifnull hx hb dX7_turn_13 ?_
        refine lv_aload_n hx hb dX7_turn_16 rfl (lv_at hl 0 rfl) ?_
        have hi_10 := h.1
        have h := h.2
        obtain ⟨p_10, hp_10⟩ := cget_22 cI cZ cP cF q S hi_10
        by_cases hn_11 : (cv S 221 ((r2 : Int32).toNatClampNeg) 0) < 0
        · have h := h.1 hn_11
          refine va_get (D := D) (ci := 4) (v := .null) (C := RX4) (T := TX4) (N := 5) hx hb hts (fun _ h => List.mem_cons_of_mem _ (List.mem_append_left _ (List.mem_append_left _ (List.mem_append_left _ (List.mem_append_left _ (List.mem_append_left _ (List.mem_append_right _ h))))))) hown hK hP p_10 hp_10 rfl 1 (by decide) (hts (.fieldLink RX7 94 "TemplateForge$Frame" "code" "LTemplateForge$Code;") (List.mem_of_getElem? (i := 10) rfl)) (fun _ h9 => h9) (congrArg some (cn_neg hn_11)) dX7_turn_17 ?_
          refine lv_ifnullN (tgt := 44) hx hb dX7_turn_20 (by decide) ?_
          refine lv_aload_n hx hb dX7_turn_44 rfl (lv_at hl 1 rfl) ?_
          refine lv_iconst (v := 3) hx hb dX7_turn_45 (by decide) ?_
          obtain ⟨p_12, hp_12⟩ := cget_12 cI cZ cP cF q S
          have hi_12 : cin S 12 0 := Or.inl ⟨by decide, rfl⟩
          have hD0_12 := hD
          refine va_put (D := D) (ci := 7) (v := .int 3) (ty := .int) (C := RX7) (T := TX7) (N := 10) hx hb hts (fun _ h => List.mem_cons_of_mem _ (List.mem_append_left _ (List.mem_append_left _ (List.mem_append_left _ (List.mem_append_left _ (List.mem_append_left _ (List.mem_append_left _ (List.mem_append_right _ h)))))))) tyX7 tyX7_ok nmX7 hown hK hP hD hS p_12 hp_12 rfl 7 (by decide) (hts (.fieldLink RX7 53 "TemplateForge$Machine" "ending" "I") (List.mem_of_getElem? (i := 8) rfl)) (fun _ h9 => h9) rfl (by decide +kernel) rfl rfl (Nat.le_of_ble_eq_true rfl) dX7_turn_46 (fun H locs hP hD hS => ?_)
          obtain ⟨S13, eS13⟩ : ∃ z, z = cs S 127 0 (fun _ => 3) := ⟨_, rfl⟩
          have hP : va_P D vwCl (cW cI cZ cP cF q S13) H := by rw [eS13, ← cW_put (k := 127) (κ := 12) (i := 0) (g := (fun _ => 3)) rfl hD0_12 hp_12 hi_12, cput_127]; exact hP
          have hD : va_D A (cW cI cZ cP cF q S13) := by rw [eS13, ← cW_put (k := 127) (κ := 12) (i := 0) (g := (fun _ => 3)) rfl hD0_12 hp_12 hi_12, cput_127]; exact hD
          have hN : S13.2 = S.2 := by rw [eS13]; exact hN
          have h := h S13 eS13
          exact W.vret hx hb hr (fun t ht hW => ⟨⟨S13, rfl, h, by rw [ht]; exact hP, hD, hN⟩, hS.F ht⟩) hS.2.2 dX7_turn_49
        · have h := h.2 hn_11
          refine va_get (D := D) (ci := 4) (v := .ref (q 32 ((cv S 221 ((r2 : Int32).toNatClampNeg) 0) : Int32).toNatClampNeg)) (C := RX4) (T := TX4) (N := 5) hx hb hts (fun _ h => List.mem_cons_of_mem _ (List.mem_append_left _ (List.mem_append_left _ (List.mem_append_left _ (List.mem_append_left _ (List.mem_append_left _ (List.mem_append_right _ h))))))) hown hK hP p_10 hp_10 rfl 1 (by decide) (hts (.fieldLink RX7 94 "TemplateForge$Frame" "code" "LTemplateForge$Code;") (List.mem_of_getElem? (i := 10) rfl)) (fun _ h9 => h9) (congrArg some (cn_pos hn_11)) dX7_turn_17 ?_
          refine lv_ifnull hx hb dX7_turn_20 ?_
          refine lv_aload_n hx hb dX7_turn_23 rfl (lv_at hl 0 rfl) ?_
          have hi_14 := h.1
          have h := h.2
          obtain ⟨p_14, hp_14⟩ := cget_22 cI cZ cP cF q S hi_14
          refine va_get (D := D) (ci := 4) (v := .int (cv S 222 ((r2 : Int32).toNatClampNeg) 0)) (C := RX4) (T := TX4) (N := 5) hx hb hts (fun _ h => List.mem_cons_of_mem _ (List.mem_append_left _ (List.mem_append_left _ (List.mem_append_left _ (List.mem_append_left _ (List.mem_append_left _ (List.mem_append_right _ h))))))) hown hK hP p_14 hp_14 rfl 2 (by decide) (hts (.fieldLink RX7 97 "TemplateForge$Frame" "place" "I") (List.mem_of_getElem? (i := 11) rfl)) (fun _ h9 => h9) rfl dX7_turn_24 ?_
          refine lv_if_lt (tgt := 44) hx hb dX7_turn_27 (by decide) (fun c_15 => ?_) (fun c_15 => ?_)
          · have h := h.1 c_15
            refine lv_aload_n hx hb dX7_turn_44 rfl (lv_at hl 1 rfl) ?_
            refine lv_iconst (v := 3) hx hb dX7_turn_45 (by decide) ?_
            obtain ⟨p_16, hp_16⟩ := cget_12 cI cZ cP cF q S
            have hi_16 : cin S 12 0 := Or.inl ⟨by decide, rfl⟩
            have hD0_16 := hD
            refine va_put (D := D) (ci := 7) (v := .int 3) (ty := .int) (C := RX7) (T := TX7) (N := 10) hx hb hts (fun _ h => List.mem_cons_of_mem _ (List.mem_append_left _ (List.mem_append_left _ (List.mem_append_left _ (List.mem_append_left _ (List.mem_append_left _ (List.mem_append_left _ (List.mem_append_right _ h)))))))) tyX7 tyX7_ok nmX7 hown hK hP hD hS p_16 hp_16 rfl 7 (by decide) (hts (.fieldLink RX7 53 "TemplateForge$Machine" "ending" "I") (List.mem_of_getElem? (i := 8) rfl)) (fun _ h9 => h9) rfl (by decide +kernel) rfl rfl (Nat.le_of_ble_eq_true rfl) dX7_turn_46 (fun H locs hP hD hS => ?_)
            obtain ⟨S17, eS17⟩ : ∃ z, z = cs S 127 0 (fun _ => 3) := ⟨_, rfl⟩
            have hP : va_P D vwCl (cW cI cZ cP cF q S17) H := by rw [eS17, ← cW_put (k := 127) (κ := 12) (i := 0) (g := (fun _ => 3)) rfl hD0_16 hp_16 hi_16, cput_127]; exact hP
            have hD : va_D A (cW cI cZ cP cF q S17) := by rw [eS17, ← cW_put (k := 127) (κ := 12) (i := 0) (g := (fun _ => 3)) rfl hD0_16 hp_16 hi_16, cput_127]; exact hD
            have hN : S17.2 = S.2 := by rw [eS17]; exact hN
            have h := h S17 eS17
            exact W.vret hx hb hr (fun t ht hW => ⟨⟨S17, rfl, h, by rw [ht]; exact hP, hD, hN⟩, hS.F ht⟩) hS.2.2 dX7_turn_49
          · have h := h.2 c_15
            refine lv_aload_n hx hb dX7_turn_30 rfl (lv_at hl 0 rfl) ?_
            have hi_18 := h.1
            have h := h.2
            obtain ⟨p_18, hp_18⟩ := cget_22 cI cZ cP cF q S hi_18
            refine va_get (D := D) (ci := 4) (v := .int (cv S 222 ((r2 : Int32).toNatClampNeg) 0)) (C := RX4) (T := TX4) (N := 5) hx hb hts (fun _ h => List.mem_cons_of_mem _ (List.mem_append_left _ (List.mem_append_left _ (List.mem_append_left _ (List.mem_append_left _ (List.mem_append_left _ (List.mem_append_right _ h))))))) hown hK hP p_18 hp_18 rfl 2 (by decide) (hts (.fieldLink RX7 97 "TemplateForge$Frame" "place" "I") (List.mem_of_getElem? (i := 11) rfl)) (fun _ h9 => h9) rfl dX7_turn_31 ?_
            refine lv_aload_n hx hb dX7_turn_34 rfl (lv_at hl 0 rfl) ?_
            have hi_19 := h.1
            have h := h.2
            obtain ⟨p_19, hp_19⟩ := cget_22 cI cZ cP cF q S hi_19
            by_cases hn_20 : (cv S 221 ((r2 : Int32).toNatClampNeg) 0) < 0
            · have h := h.1 hn_20
              refine va_get (D := D) (ci := 4) (v := .null) (C := RX4) (T := TX4) (N := 5) hx hb hts (fun _ h => List.mem_cons_of_mem _ (List.mem_append_left _ (List.mem_append_left _ (List.mem_append_left _ (List.mem_append_left _ (List.mem_append_left _ (List.mem_append_right _ h))))))) hown hK hP p_19 hp_19 rfl 1 (by decide) (hts (.fieldLink RX7 94 "TemplateForge$Frame" "code" "LTemplateForge$Code;") (List.mem_of_getElem? (i := 10) rfl)) (fun _ h9 => h9) (congrArg some (cn_neg hn_20)) dX7_turn_35 ?_
              exact h.elim
            · have h := h.2 hn_20
              refine va_get (D := D) (ci := 4) (v := .ref (q 32 ((cv S 221 ((r2 : Int32).toNatClampNeg) 0) : Int32).toNatClampNeg)) (C := RX4) (T := TX4) (N := 5) hx hb hts (fun _ h => List.mem_cons_of_mem _ (List.mem_append_left _ (List.mem_append_left _ (List.mem_append_left _ (List.mem_append_left _ (List.mem_append_left _ (List.mem_append_right _ h))))))) hown hK hP p_19 hp_19 rfl 1 (by decide) (hts (.fieldLink RX7 94 "TemplateForge$Frame" "code" "LTemplateForge$Code;") (List.mem_of_getElem? (i := 10) rfl)) (fun _ h9 => h9) (congrArg some (cn_pos hn_20)) dX7_turn_35 ?_
              have hi_21 := h.1
              have h := h.2
              obtain ⟨p_21, hp_21⟩ := cget_32 cI cZ cP cF q S hi_21
              refine vp_callSi (va_Run.run (va_runV (As := []) (rest := [.int (cv S 222 ((r2 : Int32).toNatClampNeg) 0)]) ⟨hx, hb, hml, hown, hts⟩ (zd_X1_parts l D cI cZ cP cF q S (((cv S 221 ((r2 : Int32).toNatClampNeg) 0) : Int32).toNatClampNeg)  _ h) (cwV 0 hts zg_zd_X7_turn_zd_X1_parts_153 rfl rfl rfl (by decide +kernel) ⟨Nat.le_of_ble_eq_true rfl, Nat.le_of_ble_eq_true rfl⟩) ⟨zCR, va_recv hK hP (ci := 1) (q0 := p_21) rfl hp_21, fun U hU hW => ⟨rfl, by rw [hU]; exact hP, hE.warm hW⟩⟩ rfl rfl hl.1 rfl (lv_room (Nat.le_of_ble_eq_true rfl)) dX7_turn_38 ⟨Nat.le_of_ble_eq_true rfl, Nat.le_of_ble_eq_true rfl⟩)) (fun r22 h => ?_)
              refine lv_icmp_lt (tgt := 50) hx hb dX7_turn_41 (by decide) (fun c_23 => ?_) (fun c_23 => ?_)
              · have h := h.1 c_23
                refine lv_aload_n hx hb dX7_turn_50 rfl (lv_at hl 0 rfl) ?_
                have hi_24 := h.1
                have h := h.2
                obtain ⟨p_24, hp_24⟩ := cget_22 cI cZ cP cF q S hi_24
                by_cases hn_25 : (cv S 221 ((r2 : Int32).toNatClampNeg) 0) < 0
                · have h := h.1 hn_25
                  refine va_get (D := D) (ci := 4) (v := .null) (C := RX4) (T := TX4) (N := 5) hx hb hts (fun _ h => List.mem_cons_of_mem _ (List.mem_append_left _ (List.mem_append_left _ (List.mem_append_left _ (List.mem_append_left _ (List.mem_append_left _ (List.mem_append_right _ h))))))) hown hK hP p_24 hp_24 rfl 1 (by decide) (hts (.fieldLink RX7 94 "TemplateForge$Frame" "code" "LTemplateForge$Code;") (List.mem_of_getElem? (i := 10) rfl)) (fun _ h9 => h9) (congrArg some (cn_neg hn_25)) dX7_turn_51 ?_
                  exact h.elim
                · have h := h.2 hn_25
                  refine va_get (D := D) (ci := 4) (v := .ref (q 32 ((cv S 221 ((r2 : Int32).toNatClampNeg) 0) : Int32).toNatClampNeg)) (C := RX4) (T := TX4) (N := 5) hx hb hts (fun _ h => List.mem_cons_of_mem _ (List.mem_append_left _ (List.mem_append_left _ (List.mem_append_left _ (List.mem_append_left _ (List.mem_append_left _ (List.mem_append_right _ h))))))) hown hK hP p_24 hp_24 rfl 1 (by decide) (hts (.fieldLink RX7 94 "TemplateForge$Frame" "code" "LTemplateForge$Code;") (List.mem_of_getElem? (i := 10) rfl)) (fun _ h9 => h9) (congrArg some (cn_pos hn_25)) dX7_turn_51 ?_
                  have hi_26 := h.1
                  have h := h.2
                  obtain ⟨p_26, hp_26⟩ := cget_32 cI cZ cP cF q S hi_26
                  refine va_get (D := D) (ci := 1) (v := .ref (q 33 (((cv S 221 ((r2 : Int32).toNatClampNeg) 0) : Int32).toNatClampNeg))) (C := RX1) (T := TX1) (N := 4) hx hb hts (fun _ h => List.mem_cons_of_mem _ (List.mem_append_left _ (List.mem_append_left _ (List.mem_append_left _ (List.mem_append_left _ (List.mem_append_right _ h)))))) hown hK hP p_26 hp_26 rfl 2 (by decide) (hts (.fieldLink RX7 159 "TemplateForge$Code" "cells" "[I") (List.mem_of_getElem? (i := 18) rfl)) (fun _ h9 => h9) rfl dX7_turn_54 ?_
                  refine lv_astore_n (lv' := [(2, .ref (q 33 (((cv S 221 ((r2 : Int32).toNatClampNeg) 0) : Int32).toNatClampNeg))), (1, .ref (q 22 ((r2 : Int32).toNatClampNeg))), (0, .ref (q 12 0))]) hx hb dX7_turn_57 rfl hl (by decide) rfl (fun ls hl => ?_)
                  refine lv_iconst (v := 5) hx hb dX7_turn_58 (by decide) ?_
                  refine lv_aload_n hx hb dX7_turn_59 rfl (lv_at hl 1 rfl) ?_
                  have hi_27 := h.1
                  have h := h.2
                  obtain ⟨p_27, hp_27⟩ := cget_22 cI cZ cP cF q S hi_27
                  refine va_get (D := D) (ci := 4) (v := .int (cv S 222 ((r2 : Int32).toNatClampNeg) 0)) (C := RX4) (T := TX4) (N := 5) hx hb hts (fun _ h => List.mem_cons_of_mem _ (List.mem_append_left _ (List.mem_append_left _ (List.mem_append_left _ (List.mem_append_left _ (List.mem_append_left _ (List.mem_append_right _ h))))))) hown hK hP p_27 hp_27 rfl 2 (by decide) (hts (.fieldLink RX7 97 "TemplateForge$Frame" "place" "I") (List.mem_of_getElem? (i := 11) rfl)) (fun _ h9 => h9) rfl dX7_turn_60 ?_
                  refine lv_imul hx hb dX7_turn_63 ?_
                  refine lv_istore_n (lv' := [(3, .int (5 * (cv S 222 ((r2 : Int32).toNatClampNeg) 0))), (2, .ref (q 33 (((cv S 221 ((r2 : Int32).toNatClampNeg) 0) : Int32).toNatClampNeg))), (1, .ref (q 22 ((r2 : Int32).toNatClampNeg))), (0, .ref (q 12 0))]) hx hb dX7_turn_64 rfl hl (by decide) rfl (fun ls hl => ?_)
                  refine lv_aload_n hx hb dX7_turn_65 rfl (lv_at hl 1 rfl) ?_
                  refine lv_iload_n hx hb dX7_turn_66 rfl (lv_at hl 0 rfl) ?_
                  have hi_28 := h.1
                  have h := h.2
                  obtain ⟨p_28, hp_28⟩ := cget_33 cI cZ cP cF q S hi_28
                  have hin_28 := h.1
                  have h := h.2
                  refine va_iald hx hb hK hP p_28 0 hp_28 rfl hin_28 dX7_turn_67 ?_
                  refine lv_istore (lv' := [(4, .int (cv S 330 (((cv S 221 ((r2 : Int32).toNatClampNeg) 0) : Int32).toNatClampNeg) (5 * (cv S 222 ((r2 : Int32).toNatClampNeg) 0) : Int32).toNatClampNeg)), (3, .int (5 * (cv S 222 ((r2 : Int32).toNatClampNeg) 0))), (2, .ref (q 33 (((cv S 221 ((r2 : Int32).toNatClampNeg) 0) : Int32).toNatClampNeg))), (1, .ref (q 22 ((r2 : Int32).toNatClampNeg))), (0, .ref (q 12 0))]) hx hb dX7_turn_68 hl (by decide) rfl (fun ls hl => ?_)
                  refine lv_aload_n hx hb dX7_turn_70 rfl (lv_at hl 2 rfl) ?_
                  refine lv_iload_n hx hb dX7_turn_71 rfl (lv_at hl 1 rfl) ?_
                  refine lv_iconst (v := 1) hx hb dX7_turn_72 (by decide) ?_
                  refine lv_iadd hx hb dX7_turn_73 ?_
                  have hi_29 := h.1
                  have h := h.2
                  obtain ⟨p_29, hp_29⟩ := cget_33 cI cZ cP cF q S hi_29
                  have hin_29 := h.1
                  have h := h.2
                  refine va_iald hx hb hK hP p_29 0 hp_29 rfl hin_29 dX7_turn_74 ?_
                  refine lv_istore (lv' := [(5, .int (cv S 330 (((cv S 221 ((r2 : Int32).toNatClampNeg) 0) : Int32).toNatClampNeg) ((5 * (cv S 222 ((r2 : Int32).toNatClampNeg) 0)) + 1 : Int32).toNatClampNeg)), (4, .int (cv S 330 (((cv S 221 ((r2 : Int32).toNatClampNeg) 0) : Int32).toNatClampNeg) (5 * (cv S 222 ((r2 : Int32).toNatClampNeg) 0) : Int32).toNatClampNeg)), (3, .int (5 * (cv S 222 ((r2 : Int32).toNatClampNeg) 0))), (2, .ref (q 33 (((cv S 221 ((r2 : Int32).toNatClampNeg) 0) : Int32).toNatClampNeg))), (1, .ref (q 22 ((r2 : Int32).toNatClampNeg))), (0, .ref (q 12 0))]) hx hb dX7_turn_75 hl (by decide) rfl (fun ls hl => ?_)
                  refine lv_aload_n hx hb dX7_turn_77 rfl (lv_at hl 3 rfl) ?_
                  refine lv_iload_n hx hb dX7_turn_78 rfl (lv_at hl 2 rfl) ?_
                  refine lv_iconst (v := 2) hx hb dX7_turn_79 (by decide) ?_
                  refine lv_iadd hx hb dX7_turn_80 ?_
                  have hi_30 := h.1
                  have h := h.2
                  obtain ⟨p_30, hp_30⟩ := cget_33 cI cZ cP cF q S hi_30
                  have hin_30 := h.1
                  have h := h.2
                  refine va_iald hx hb hK hP p_30 0 hp_30 rfl hin_30 dX7_turn_81 ?_
                  refine lv_istore (lv' := [(6, .int (cv S 330 (((cv S 221 ((r2 : Int32).toNatClampNeg) 0) : Int32).toNatClampNeg) ((5 * (cv S 222 ((r2 : Int32).toNatClampNeg) 0)) + 2 : Int32).toNatClampNeg)), (5, .int (cv S 330 (((cv S 221 ((r2 : Int32).toNatClampNeg) 0) : Int32).toNatClampNeg) ((5 * (cv S 222 ((r2 : Int32).toNatClampNeg) 0)) + 1 : Int32).toNatClampNeg)), (4, .int (cv S 330 (((cv S 221 ((r2 : Int32).toNatClampNeg) 0) : Int32).toNatClampNeg) (5 * (cv S 222 ((r2 : Int32).toNatClampNeg) 0) : Int32).toNatClampNeg)), (3, .int (5 * (cv S 222 ((r2 : Int32).toNatClampNeg) 0))), (2, .ref (q 33 (((cv S 221 ((r2 : Int32).toNatClampNeg) 0) : Int32).toNatClampNeg))), (1, .ref (q 22 ((r2 : Int32).toNatClampNeg))), (0, .ref (q 12 0))]) hx hb dX7_turn_82 hl (by decide) rfl (fun ls hl => ?_)
                  refine lv_aload_n hx hb dX7_turn_84 rfl (lv_at hl 4 rfl) ?_
                  refine lv_iload_n hx hb dX7_turn_85 rfl (lv_at hl 3 rfl) ?_
                  refine lv_iconst (v := 3) hx hb dX7_turn_86 (by decide) ?_
                  refine lv_iadd hx hb dX7_turn_87 ?_
                  have hi_31 := h.1
                  have h := h.2
                  obtain ⟨p_31, hp_31⟩ := cget_33 cI cZ cP cF q S hi_31
                  have hin_31 := h.1
                  have h := h.2
                  refine va_iald hx hb hK hP p_31 0 hp_31 rfl hin_31 dX7_turn_88 ?_
                  refine lv_istore (lv' := [(7, .int (cv S 330 (((cv S 221 ((r2 : Int32).toNatClampNeg) 0) : Int32).toNatClampNeg) ((5 * (cv S 222 ((r2 : Int32).toNatClampNeg) 0)) + 3 : Int32).toNatClampNeg)), (6, .int (cv S 330 (((cv S 221 ((r2 : Int32).toNatClampNeg) 0) : Int32).toNatClampNeg) ((5 * (cv S 222 ((r2 : Int32).toNatClampNeg) 0)) + 2 : Int32).toNatClampNeg)), (5, .int (cv S 330 (((cv S 221 ((r2 : Int32).toNatClampNeg) 0) : Int32).toNatClampNeg) ((5 * (cv S 222 ((r2 : Int32).toNatClampNeg) 0)) + 1 : Int32).toNatClampNeg)), (4, .int (cv S 330 (((cv S 221 ((r2 : Int32).toNatClampNeg) 0) : Int32).toNatClampNeg) (5 * (cv S 222 ((r2 : Int32).toNatClampNeg) 0) : Int32).toNatClampNeg)), (3, .int (5 * (cv S 222 ((r2 : Int32).toNatClampNeg) 0))), (2, .ref (q 33 (((cv S 221 ((r2 : Int32).toNatClampNeg) 0) : Int32).toNatClampNeg))), (1, .ref (q 22 ((r2 : Int32).toNatClampNeg))), (0, .ref (q 12 0))]) hx hb dX7_turn_89 hl (by decide) rfl (fun ls hl => ?_)
                  refine lv_aload_n hx hb dX7_turn_91 rfl (lv_at hl 5 rfl) ?_
                  refine lv_iload_n hx hb dX7_turn_92 rfl (lv_at hl 4 rfl) ?_
                  refine lv_iconst (v := 4) hx hb dX7_turn_93 (by decide) ?_
                  refine lv_iadd hx hb dX7_turn_94 ?_
                  have hi_32 := h.1
                  have h := h.2
                  obtain ⟨p_32, hp_32⟩ := cget_33 cI cZ cP cF q S hi_32
                  have hin_32 := h.1
                  have h := h.2
                  refine va_iald hx hb hK hP p_32 0 hp_32 rfl hin_32 dX7_turn_95 ?_
                  refine lv_istore (lv' := [(8, .int (cv S 330 (((cv S 221 ((r2 : Int32).toNatClampNeg) 0) : Int32).toNatClampNeg) ((5 * (cv S 222 ((r2 : Int32).toNatClampNeg) 0)) + 4 : Int32).toNatClampNeg)), (7, .int (cv S 330 (((cv S 221 ((r2 : Int32).toNatClampNeg) 0) : Int32).toNatClampNeg) ((5 * (cv S 222 ((r2 : Int32).toNatClampNeg) 0)) + 3 : Int32).toNatClampNeg)), (6, .int (cv S 330 (((cv S 221 ((r2 : Int32).toNatClampNeg) 0) : Int32).toNatClampNeg) ((5 * (cv S 222 ((r2 : Int32).toNatClampNeg) 0)) + 2 : Int32).toNatClampNeg)), (5, .int (cv S 330 (((cv S 221 ((r2 : Int32).toNatClampNeg) 0) : Int32).toNatClampNeg) ((5 * (cv S 222 ((r2 : Int32).toNatClampNeg) 0)) + 1 : Int32).toNatClampNeg)), (4, .int (cv S 330 (((cv S 221 ((r2 : Int32).toNatClampNeg) 0) : Int32).toNatClampNeg) (5 * (cv S 222 ((r2 : Int32).toNatClampNeg) 0) : Int32).toNatClampNeg)), (3, .int (5 * (cv S 222 ((r2 : Int32).toNatClampNeg) 0))), (2, .ref (q 33 (((cv S 221 ((r2 : Int32).toNatClampNeg) 0) : Int32).toNatClampNeg))), (1, .ref (q 22 ((r2 : Int32).toNatClampNeg))), (0, .ref (q 12 0))]) hx hb dX7_turn_96 hl (by decide) rfl (fun ls hl => ?_)
                  refine lv_aload_n hx hb dX7_turn_98 rfl (lv_at hl 7 rfl) ?_
                  refine lv_dup hx hb dX7_turn_99 rfl ?_
                  have hi_33 := h.1
                  have h := h.2
                  obtain ⟨p_33, hp_33⟩ := cget_22 cI cZ cP cF q S hi_33
                  refine va_get (D := D) (ci := 4) (v := .int (cv S 222 ((r2 : Int32).toNatClampNeg) 0)) (C := RX4) (T := TX4) (N := 5) hx hb hts (fun _ h => List.mem_cons_of_mem _ (List.mem_append_left _ (List.mem_append_left _ (List.mem_append_left _ (List.mem_append_left _ (List.mem_append_left _ (List.mem_append_right _ h))))))) hown hK hP p_33 hp_33 rfl 2 (by decide) (hts (.fieldLink RX7 97 "TemplateForge$Frame" "place" "I") (List.mem_of_getElem? (i := 11) rfl)) (fun _ h9 => h9) rfl dX7_turn_100 ?_
                  refine lv_iconst (v := 1) hx hb dX7_turn_103 (by decide) ?_
                  refine lv_iadd hx hb dX7_turn_104 ?_
                  have hi_34 := h.1
                  have h := h.2
                  obtain ⟨p_34, hp_34⟩ := cget_22 cI cZ cP cF q S hi_34
                  have hD0_34 := hD
                  refine va_put (D := D) (ci := 4) (v := .int ((cv S 222 ((r2 : Int32).toNatClampNeg) 0) + 1)) (ty := .int) (C := RX4) (T := TX4) (N := 5) hx hb hts (fun _ h => List.mem_cons_of_mem _ (List.mem_append_left _ (List.mem_append_left _ (List.mem_append_left _ (List.mem_append_left _ (List.mem_append_left _ (List.mem_append_right _ h))))))) tyX4 tyX4_ok nmX4 hown hK hP hD hS p_34 hp_34 rfl 2 (by decide) (hts (.fieldLink RX7 97 "TemplateForge$Frame" "place" "I") (List.mem_of_getElem? (i := 11) rfl)) (fun _ h9 => h9) rfl (by decide +kernel) rfl rfl (Nat.le_of_ble_eq_true rfl) dX7_turn_105 (fun H locs hP hD hS => ?_)
                  obtain ⟨S35, eS35⟩ : ∃ z, z = cs S 222 ((r2 : Int32).toNatClampNeg) (fun _ => (cv S 222 ((r2 : Int32).toNatClampNeg) 0) + 1) := ⟨_, rfl⟩
                  have hP : va_P D vwCl (cW cI cZ cP cF q S35) H := by rw [eS35, ← cW_put (k := 222) (κ := 22) (i := ((r2 : Int32).toNatClampNeg)) (g := (fun _ => (cv S 222 ((r2 : Int32).toNatClampNeg) 0) + 1)) rfl hD0_34 hp_34 hi_34, cput_222]; exact hP
                  have hD : va_D A (cW cI cZ cP cF q S35) := by rw [eS35, ← cW_put (k := 222) (κ := 22) (i := ((r2 : Int32).toNatClampNeg)) (g := (fun _ => (cv S 222 ((r2 : Int32).toNatClampNeg) 0) + 1)) rfl hD0_34 hp_34 hi_34, cput_222]; exact hD
                  have hN : S35.2 = S.2 := by rw [eS35]; exact hN
                  have h := h S35 eS35
                  refine lv_iload hx hb dX7_turn_108 (lv_at hl 4 rfl) ?_
                  rcases zt_0_18 (cv S 330 (((cv S 221 ((r2 : Int32).toNatClampNeg) 0) : Int32).toNatClampNeg) (5 * (cv S 222 ((r2 : Int32).toNatClampNeg) 0) : Int32).toNatClampNeg) with h_out | h_in | h_in | h_in | h_in | h_in | h_in | h_in | h_in | h_in | h_in | h_in | h_in | h_in | h_in | h_in | h_in | h_in | h_in | h_in
                  · have h := h.1 h_out
                    refine lv_tableOut (tgt := 384) hx hb dX7_turn_110 h_out (by decide) ?_
                    refine lv_aload_n hx hb dX7_turn_384 rfl (lv_at hl 8 rfl) ?_
                    refine lv_aload_n hx hb dX7_turn_385 rfl (lv_at hl 7 rfl) ?_
                    refine lv_iload hx hb dX7_turn_386 (lv_at hl 4 rfl) ?_
                    refine lv_iload hx hb dX7_turn_388 (lv_at hl 3 rfl) ?_
                    refine lv_iload hx hb dX7_turn_390 (lv_at hl 2 rfl) ?_
                    refine lv_iload hx hb dX7_turn_392 (lv_at hl 1 rfl) ?_
                    refine lv_iload hx hb dX7_turn_394 (lv_at hl 0 rfl) ?_
                    obtain ⟨p_36, hp_36⟩ := cget_12 cI cZ cP cF q S35
                    have hi_36 : cin S35 12 0 := Or.inl ⟨by decide, rfl⟩
                    have hFc := zm_free hD hS hA
                    refine va_callv (va_runV (As := [.ref (q 22 ((r2 : Int32).toNatClampNeg)), .int (cv S 330 (((cv S 221 ((r2 : Int32).toNatClampNeg) 0) : Int32).toNatClampNeg) (5 * (cv S 222 ((r2 : Int32).toNatClampNeg) 0) : Int32).toNatClampNeg), .int (cv S 330 (((cv S 221 ((r2 : Int32).toNatClampNeg) 0) : Int32).toNatClampNeg) ((5 * (cv S 222 ((r2 : Int32).toNatClampNeg) 0)) + 1 : Int32).toNatClampNeg), .int (cv S 330 (((cv S 221 ((r2 : Int32).toNatClampNeg) 0) : Int32).toNatClampNeg) ((5 * (cv S 222 ((r2 : Int32).toNatClampNeg) 0)) + 2 : Int32).toNatClampNeg), .int (cv S 330 (((cv S 221 ((r2 : Int32).toNatClampNeg) 0) : Int32).toNatClampNeg) ((5 * (cv S 222 ((r2 : Int32).toNatClampNeg) 0)) + 3 : Int32).toNatClampNeg), .int (cv S 330 (((cv S 221 ((r2 : Int32).toNatClampNeg) 0) : Int32).toNatClampNeg) ((5 * (cv S 222 ((r2 : Int32).toNatClampNeg) 0)) + 4 : Int32).toNatClampNeg)]) (rest := []) ⟨hx, hb, hml, hown, hts⟩ (zd_X7_turnThatMayTrap l D cI cZ cP cF q S35 ((r2 : Int32).toNatClampNeg) (cv S 330 (((cv S 221 ((r2 : Int32).toNatClampNeg) 0) : Int32).toNatClampNeg) (5 * (cv S 222 ((r2 : Int32).toNatClampNeg) 0) : Int32).toNatClampNeg) (cv S 330 (((cv S 221 ((r2 : Int32).toNatClampNeg) 0) : Int32).toNatClampNeg) ((5 * (cv S 222 ((r2 : Int32).toNatClampNeg) 0)) + 1 : Int32).toNatClampNeg) (cv S 330 (((cv S 221 ((r2 : Int32).toNatClampNeg) 0) : Int32).toNatClampNeg) ((5 * (cv S 222 ((r2 : Int32).toNatClampNeg) 0)) + 2 : Int32).toNatClampNeg) (cv S 330 (((cv S 221 ((r2 : Int32).toNatClampNeg) 0) : Int32).toNatClampNeg) ((5 * (cv S 222 ((r2 : Int32).toNatClampNeg) 0)) + 3 : Int32).toNatClampNeg) (cv S 330 (((cv S 221 ((r2 : Int32).toNatClampNeg) 0) : Int32).toNatClampNeg) ((5 * (cv S 222 ((r2 : Int32).toNatClampNeg) 0)) + 4 : Int32).toNatClampNeg) H.size _ h) (cwV 6 hts zg_zd_X7_turn_zd_X7_turnThatMayTrap_186 rfl rfl rfl (by decide +kernel) ⟨Nat.le_of_ble_eq_true rfl, Nat.le_of_ble_eq_true rfl⟩) ⟨zCW, va_recv hK hP (ci := 7) (q0 := p_36) rfl hp_36, fun U hU hW => ⟨rfl, by rw [hU], by rw [hU]; exact hP, hE.warm hW, hD.weaken (fun _ _ _ _ => trivial)⟩⟩ rfl rfl hl.1 rfl (lv_room (Nat.le_of_ble_eq_true rfl)) dX7_turn_396 ⟨Nat.le_of_ble_eq_true rfl, Nat.le_of_ble_eq_true rfl⟩) hS (fun q _ h => hFc q h) hFc (fun S37 t H locs ht hvm h hB hz1 hk1 hS => ?_)
                    obtain ⟨hP, hD1, hN1⟩ := hB
                    rw [ht] at hP
                    have hD := hD1.weaken (fun k q _ hq => hFc q.1 hq)
                    have hN := hN1.trans hN
                    exact W.vret hx hb hr (fun t ht hW => ⟨⟨S37, rfl, h, by rw [ht]; exact hP, hD, hN⟩, hS.F ht⟩) hS.2.2 dX7_turn_399
                  · have h := h.2.1 h_in
                    refine lv_tableIn (off := 90) (tgt := 200) hx hb dX7_turn_110 (by rw [h_in]; decide) (by rw [h_in]; decide) (by rw [h_in]; decide) (by decide) ?_
                    refine lv_aload_n hx hb dX7_turn_200 rfl (lv_at hl 7 rfl) ?_
                    refine lv_iload hx hb dX7_turn_201 (lv_at hl 3 rfl) ?_
                    refine lv_iload hx hb dX7_turn_203 (lv_at hl 2 rfl) ?_
                    have hi_38 := h.1
                    have h := h.2
                    obtain ⟨p_38, hp_38⟩ := cget_22 cI cZ cP cF q S35 hi_38
                    have hFc := zm_free hD hS hA
                    refine va_callv (va_runV (As := [.int (cv S 330 (((cv S 221 ((r2 : Int32).toNatClampNeg) 0) : Int32).toNatClampNeg) ((5 * (cv S 222 ((r2 : Int32).toNatClampNeg) 0)) + 1 : Int32).toNatClampNeg), .int (cv S 330 (((cv S 221 ((r2 : Int32).toNatClampNeg) 0) : Int32).toNatClampNeg) ((5 * (cv S 222 ((r2 : Int32).toNatClampNeg) 0)) + 2 : Int32).toNatClampNeg)]) (rest := []) ⟨hx, hb, hml, hown, hts⟩ (zd_X4_put l D cI cZ cP cF q S35 ((r2 : Int32).toNatClampNeg) (cv S 330 (((cv S 221 ((r2 : Int32).toNatClampNeg) 0) : Int32).toNatClampNeg) ((5 * (cv S 222 ((r2 : Int32).toNatClampNeg) 0)) + 1 : Int32).toNatClampNeg) (cv S 330 (((cv S 221 ((r2 : Int32).toNatClampNeg) 0) : Int32).toNatClampNeg) ((5 * (cv S 222 ((r2 : Int32).toNatClampNeg) 0)) + 2 : Int32).toNatClampNeg) H.size _ h) (cwV 2 hts zg_zd_X7_turn_zd_X4_put_107 rfl rfl rfl (by decide +kernel) ⟨Nat.le_of_ble_eq_true rfl, Nat.le_of_ble_eq_true rfl⟩) ⟨zCW, va_recv hK hP (ci := 4) (q0 := p_38) rfl hp_38, fun U hU hW => ⟨rfl, by rw [hU], by rw [hU]; exact hP, hE.warm hW, hD.weaken (fun _ _ _ _ => trivial)⟩⟩ rfl rfl hl.1 rfl (lv_room (Nat.le_of_ble_eq_true rfl)) dX7_turn_205 ⟨Nat.le_of_ble_eq_true rfl, Nat.le_of_ble_eq_true rfl⟩) hS (fun q _ h => hFc q h) hFc (fun S39 t H locs ht hvm h hB hz1 hk1 hS => ?_)
                    obtain ⟨hP, hD1, hN1⟩ := hB
                    rw [ht] at hP
                    have hD := hD1.weaken (fun k q _ hq => hFc q.1 hq)
                    have hN := hN1.trans hN
                    refine lv_goto (tgt := 399) hx hb dX7_turn_208 (by decide) ?_
                    exact W.vret hx hb hr (fun t ht hW => ⟨⟨S39, rfl, h, by rw [ht]; exact hP, hD, hN⟩, hS.F ht⟩) hS.2.2 dX7_turn_399
                  · have h := h.2.2.1 h_in
                    refine lv_tableIn (off := 101) (tgt := 211) hx hb dX7_turn_110 (by rw [h_in]; decide) (by rw [h_in]; decide) (by rw [h_in]; decide) (by decide) ?_
                    refine lv_aload_n hx hb dX7_turn_211 rfl (lv_at hl 7 rfl) ?_
                    refine lv_iload hx hb dX7_turn_212 (lv_at hl 3 rfl) ?_
                    refine lv_aload_n hx hb dX7_turn_214 rfl (lv_at hl 7 rfl) ?_
                    refine lv_iload hx hb dX7_turn_215 (lv_at hl 2 rfl) ?_
                    have hi_40 := h.1
                    have h := h.2
                    obtain ⟨p_40, hp_40⟩ := cget_22 cI cZ cP cF q S35 hi_40
                    refine vp_callSi (va_Run.run (va_runV (As := [.int (cv S 330 (((cv S 221 ((r2 : Int32).toNatClampNeg) 0) : Int32).toNatClampNeg) ((5 * (cv S 222 ((r2 : Int32).toNatClampNeg) 0)) + 2 : Int32).toNatClampNeg)]) (rest := [.int (cv S 330 (((cv S 221 ((r2 : Int32).toNatClampNeg) 0) : Int32).toNatClampNeg) ((5 * (cv S 222 ((r2 : Int32).toNatClampNeg) 0)) + 1 : Int32).toNatClampNeg), .ref (q 22 ((r2 : Int32).toNatClampNeg))]) ⟨hx, hb, hml, hown, hts⟩ (zd_X4_valueOf l D cI cZ cP cF q S35 ((r2 : Int32).toNatClampNeg) (cv S 330 (((cv S 221 ((r2 : Int32).toNatClampNeg) 0) : Int32).toNatClampNeg) ((5 * (cv S 222 ((r2 : Int32).toNatClampNeg) 0)) + 2 : Int32).toNatClampNeg)  _ h) (cwV 1 hts zg_zd_X7_turn_zd_X4_valueOf_162 rfl rfl rfl (by decide +kernel) ⟨Nat.le_of_ble_eq_true rfl, Nat.le_of_ble_eq_true rfl⟩) ⟨zCR, va_recv hK hP (ci := 4) (q0 := p_40) rfl hp_40, fun U hU hW => ⟨rfl, by rw [hU]; exact hP, hE.warm hW⟩⟩ rfl rfl hl.1 rfl (lv_room (Nat.le_of_ble_eq_true rfl)) dX7_turn_217 ⟨Nat.le_of_ble_eq_true rfl, Nat.le_of_ble_eq_true rfl⟩)) (fun r41 h => ?_)
                    have hi_42 := h.1
                    have h := h.2
                    obtain ⟨p_42, hp_42⟩ := cget_22 cI cZ cP cF q S35 hi_42
                    have hFc := zm_free hD hS hA
                    refine va_callv (va_runV (As := [.int (cv S 330 (((cv S 221 ((r2 : Int32).toNatClampNeg) 0) : Int32).toNatClampNeg) ((5 * (cv S 222 ((r2 : Int32).toNatClampNeg) 0)) + 1 : Int32).toNatClampNeg), .int r41]) (rest := []) ⟨hx, hb, hml, hown, hts⟩ (zd_X4_put l D cI cZ cP cF q S35 ((r2 : Int32).toNatClampNeg) (cv S 330 (((cv S 221 ((r2 : Int32).toNatClampNeg) 0) : Int32).toNatClampNeg) ((5 * (cv S 222 ((r2 : Int32).toNatClampNeg) 0)) + 1 : Int32).toNatClampNeg) r41 H.size _ h) (cwV 2 hts zg_zd_X7_turn_zd_X4_put_107 rfl rfl rfl (by decide +kernel) ⟨Nat.le_of_ble_eq_true rfl, Nat.le_of_ble_eq_true rfl⟩) ⟨zCW, va_recv hK hP (ci := 4) (q0 := p_42) rfl hp_42, fun U hU hW => ⟨rfl, by rw [hU], by rw [hU]; exact hP, hE.warm hW, hD.weaken (fun _ _ _ _ => trivial)⟩⟩ rfl rfl hl.1 rfl (lv_room (Nat.le_of_ble_eq_true rfl)) dX7_turn_220 ⟨Nat.le_of_ble_eq_true rfl, Nat.le_of_ble_eq_true rfl⟩) hS (fun q _ h => hFc q h) hFc (fun S43 t H locs ht hvm h hB hz1 hk1 hS => ?_)
                    obtain ⟨hP, hD1, hN1⟩ := hB
                    rw [ht] at hP
                    have hD := hD1.weaken (fun k q _ hq => hFc q.1 hq)
                    have hN := hN1.trans hN
                    refine lv_goto (tgt := 399) hx hb dX7_turn_223 (by decide) ?_
                    exact W.vret hx hb hr (fun t ht hW => ⟨⟨S43, rfl, h, by rw [ht]; exact hP, hD, hN⟩, hS.F ht⟩) hS.2.2 dX7_turn_399
                  · have h := h.2.2.2.1 h_in
                    refine lv_tableIn (off := 274) (tgt := 384) hx hb dX7_turn_110 (by rw [h_in]; decide) (by rw [h_in]; decide) (by rw [h_in]; decide) (by decide) ?_
                    refine lv_aload_n hx hb dX7_turn_384 rfl (lv_at hl 8 rfl) ?_
                    refine lv_aload_n hx hb dX7_turn_385 rfl (lv_at hl 7 rfl) ?_
                    refine lv_iload hx hb dX7_turn_386 (lv_at hl 4 rfl) ?_
                    refine lv_iload hx hb dX7_turn_388 (lv_at hl 3 rfl) ?_
                    refine lv_iload hx hb dX7_turn_390 (lv_at hl 2 rfl) ?_
                    refine lv_iload hx hb dX7_turn_392 (lv_at hl 1 rfl) ?_
                    refine lv_iload hx hb dX7_turn_394 (lv_at hl 0 rfl) ?_
                    obtain ⟨p_44, hp_44⟩ := cget_12 cI cZ cP cF q S35
                    have hi_44 : cin S35 12 0 := Or.inl ⟨by decide, rfl⟩
                    have hFc := zm_free hD hS hA
                    refine va_callv (va_runV (As := [.ref (q 22 ((r2 : Int32).toNatClampNeg)), .int (cv S 330 (((cv S 221 ((r2 : Int32).toNatClampNeg) 0) : Int32).toNatClampNeg) (5 * (cv S 222 ((r2 : Int32).toNatClampNeg) 0) : Int32).toNatClampNeg), .int (cv S 330 (((cv S 221 ((r2 : Int32).toNatClampNeg) 0) : Int32).toNatClampNeg) ((5 * (cv S 222 ((r2 : Int32).toNatClampNeg) 0)) + 1 : Int32).toNatClampNeg), .int (cv S 330 (((cv S 221 ((r2 : Int32).toNatClampNeg) 0) : Int32).toNatClampNeg) ((5 * (cv S 222 ((r2 : Int32).toNatClampNeg) 0)) + 2 : Int32).toNatClampNeg), .int (cv S 330 (((cv S 221 ((r2 : Int32).toNatClampNeg) 0) : Int32).toNatClampNeg) ((5 * (cv S 222 ((r2 : Int32).toNatClampNeg) 0)) + 3 : Int32).toNatClampNeg), .int (cv S 330 (((cv S 221 ((r2 : Int32).toNatClampNeg) 0) : Int32).toNatClampNeg) ((5 * (cv S 222 ((r2 : Int32).toNatClampNeg) 0)) + 4 : Int32).toNatClampNeg)]) (rest := []) ⟨hx, hb, hml, hown, hts⟩ (zd_X7_turnThatMayTrap l D cI cZ cP cF q S35 ((r2 : Int32).toNatClampNeg) (cv S 330 (((cv S 221 ((r2 : Int32).toNatClampNeg) 0) : Int32).toNatClampNeg) (5 * (cv S 222 ((r2 : Int32).toNatClampNeg) 0) : Int32).toNatClampNeg) (cv S 330 (((cv S 221 ((r2 : Int32).toNatClampNeg) 0) : Int32).toNatClampNeg) ((5 * (cv S 222 ((r2 : Int32).toNatClampNeg) 0)) + 1 : Int32).toNatClampNeg) (cv S 330 (((cv S 221 ((r2 : Int32).toNatClampNeg) 0) : Int32).toNatClampNeg) ((5 * (cv S 222 ((r2 : Int32).toNatClampNeg) 0)) + 2 : Int32).toNatClampNeg) (cv S 330 (((cv S 221 ((r2 : Int32).toNatClampNeg) 0) : Int32).toNatClampNeg) ((5 * (cv S 222 ((r2 : Int32).toNatClampNeg) 0)) + 3 : Int32).toNatClampNeg) (cv S 330 (((cv S 221 ((r2 : Int32).toNatClampNeg) 0) : Int32).toNatClampNeg) ((5 * (cv S 222 ((r2 : Int32).toNatClampNeg) 0)) + 4 : Int32).toNatClampNeg) H.size _ h) (cwV 6 hts zg_zd_X7_turn_zd_X7_turnThatMayTrap_186 rfl rfl rfl (by decide +kernel) ⟨Nat.le_of_ble_eq_true rfl, Nat.le_of_ble_eq_true rfl⟩) ⟨zCW, va_recv hK hP (ci := 7) (q0 := p_44) rfl hp_44, fun U hU hW => ⟨rfl, by rw [hU], by rw [hU]; exact hP, hE.warm hW, hD.weaken (fun _ _ _ _ => trivial)⟩⟩ rfl rfl hl.1 rfl (lv_room (Nat.le_of_ble_eq_true rfl)) dX7_turn_396 ⟨Nat.le_of_ble_eq_true rfl, Nat.le_of_ble_eq_true rfl⟩) hS (fun q _ h => hFc q h) hFc (fun S45 t H locs ht hvm h hB hz1 hk1 hS => ?_)
                    obtain ⟨hP, hD1, hN1⟩ := hB
                    rw [ht] at hP
                    have hD := hD1.weaken (fun k q _ hq => hFc q.1 hq)
                    have hN := hN1.trans hN
                    exact W.vret hx hb hr (fun t ht hW => ⟨⟨S45, rfl, h, by rw [ht]; exact hP, hD, hN⟩, hS.F ht⟩) hS.2.2 dX7_turn_399
                  · have h := h.2.2.2.2.1 h_in
                    refine lv_tableIn (off := 274) (tgt := 384) hx hb dX7_turn_110 (by rw [h_in]; decide) (by rw [h_in]; decide) (by rw [h_in]; decide) (by decide) ?_
                    refine lv_aload_n hx hb dX7_turn_384 rfl (lv_at hl 8 rfl) ?_
                    refine lv_aload_n hx hb dX7_turn_385 rfl (lv_at hl 7 rfl) ?_
                    refine lv_iload hx hb dX7_turn_386 (lv_at hl 4 rfl) ?_
                    refine lv_iload hx hb dX7_turn_388 (lv_at hl 3 rfl) ?_
                    refine lv_iload hx hb dX7_turn_390 (lv_at hl 2 rfl) ?_
                    refine lv_iload hx hb dX7_turn_392 (lv_at hl 1 rfl) ?_
                    refine lv_iload hx hb dX7_turn_394 (lv_at hl 0 rfl) ?_
                    obtain ⟨p_46, hp_46⟩ := cget_12 cI cZ cP cF q S35
                    have hi_46 : cin S35 12 0 := Or.inl ⟨by decide, rfl⟩
                    have hFc := zm_free hD hS hA
                    refine va_callv (va_runV (As := [.ref (q 22 ((r2 : Int32).toNatClampNeg)), .int (cv S 330 (((cv S 221 ((r2 : Int32).toNatClampNeg) 0) : Int32).toNatClampNeg) (5 * (cv S 222 ((r2 : Int32).toNatClampNeg) 0) : Int32).toNatClampNeg), .int (cv S 330 (((cv S 221 ((r2 : Int32).toNatClampNeg) 0) : Int32).toNatClampNeg) ((5 * (cv S 222 ((r2 : Int32).toNatClampNeg) 0)) + 1 : Int32).toNatClampNeg), .int (cv S 330 (((cv S 221 ((r2 : Int32).toNatClampNeg) 0) : Int32).toNatClampNeg) ((5 * (cv S 222 ((r2 : Int32).toNatClampNeg) 0)) + 2 : Int32).toNatClampNeg), .int (cv S 330 (((cv S 221 ((r2 : Int32).toNatClampNeg) 0) : Int32).toNatClampNeg) ((5 * (cv S 222 ((r2 : Int32).toNatClampNeg) 0)) + 3 : Int32).toNatClampNeg), .int (cv S 330 (((cv S 221 ((r2 : Int32).toNatClampNeg) 0) : Int32).toNatClampNeg) ((5 * (cv S 222 ((r2 : Int32).toNatClampNeg) 0)) + 4 : Int32).toNatClampNeg)]) (rest := []) ⟨hx, hb, hml, hown, hts⟩ (zd_X7_turnThatMayTrap l D cI cZ cP cF q S35 ((r2 : Int32).toNatClampNeg) (cv S 330 (((cv S 221 ((r2 : Int32).toNatClampNeg) 0) : Int32).toNatClampNeg) (5 * (cv S 222 ((r2 : Int32).toNatClampNeg) 0) : Int32).toNatClampNeg) (cv S 330 (((cv S 221 ((r2 : Int32).toNatClampNeg) 0) : Int32).toNatClampNeg) ((5 * (cv S 222 ((r2 : Int32).toNatClampNeg) 0)) + 1 : Int32).toNatClampNeg) (cv S 330 (((cv S 221 ((r2 : Int32).toNatClampNeg) 0) : Int32).toNatClampNeg) ((5 * (cv S 222 ((r2 : Int32).toNatClampNeg) 0)) + 2 : Int32).toNatClampNeg) (cv S 330 (((cv S 221 ((r2 : Int32).toNatClampNeg) 0) : Int32).toNatClampNeg) ((5 * (cv S 222 ((r2 : Int32).toNatClampNeg) 0)) + 3 : Int32).toNatClampNeg) (cv S 330 (((cv S 221 ((r2 : Int32).toNatClampNeg) 0) : Int32).toNatClampNeg) ((5 * (cv S 222 ((r2 : Int32).toNatClampNeg) 0)) + 4 : Int32).toNatClampNeg) H.size _ h) (cwV 6 hts zg_zd_X7_turn_zd_X7_turnThatMayTrap_186 rfl rfl rfl (by decide +kernel) ⟨Nat.le_of_ble_eq_true rfl, Nat.le_of_ble_eq_true rfl⟩) ⟨zCW, va_recv hK hP (ci := 7) (q0 := p_46) rfl hp_46, fun U hU hW => ⟨rfl, by rw [hU], by rw [hU]; exact hP, hE.warm hW, hD.weaken (fun _ _ _ _ => trivial)⟩⟩ rfl rfl hl.1 rfl (lv_room (Nat.le_of_ble_eq_true rfl)) dX7_turn_396 ⟨Nat.le_of_ble_eq_true rfl, Nat.le_of_ble_eq_true rfl⟩) hS (fun q _ h => hFc q h) hFc (fun S47 t H locs ht hvm h hB hz1 hk1 hS => ?_)
                    obtain ⟨hP, hD1, hN1⟩ := hB
                    rw [ht] at hP
                    have hD := hD1.weaken (fun k q _ hq => hFc q.1 hq)
                    have hN := hN1.trans hN
                    exact W.vret hx hb hr (fun t ht hW => ⟨⟨S47, rfl, h, by rw [ht]; exact hP, hD, hN⟩, hS.F ht⟩) hS.2.2 dX7_turn_399
                  · have h := h.2.2.2.2.2.1 h_in
                    refine lv_tableIn (off := 274) (tgt := 384) hx hb dX7_turn_110 (by rw [h_in]; decide) (by rw [h_in]; decide) (by rw [h_in]; decide) (by decide) ?_
                    refine lv_aload_n hx hb dX7_turn_384 rfl (lv_at hl 8 rfl) ?_
                    refine lv_aload_n hx hb dX7_turn_385 rfl (lv_at hl 7 rfl) ?_
                    refine lv_iload hx hb dX7_turn_386 (lv_at hl 4 rfl) ?_
                    refine lv_iload hx hb dX7_turn_388 (lv_at hl 3 rfl) ?_
                    refine lv_iload hx hb dX7_turn_390 (lv_at hl 2 rfl) ?_
                    refine lv_iload hx hb dX7_turn_392 (lv_at hl 1 rfl) ?_
                    refine lv_iload hx hb dX7_turn_394 (lv_at hl 0 rfl) ?_
                    obtain ⟨p_48, hp_48⟩ := cget_12 cI cZ cP cF q S35
                    have hi_48 : cin S35 12 0 := Or.inl ⟨by decide, rfl⟩
                    have hFc := zm_free hD hS hA
                    refine va_callv (va_runV (As := [.ref (q 22 ((r2 : Int32).toNatClampNeg)), .int (cv S 330 (((cv S 221 ((r2 : Int32).toNatClampNeg) 0) : Int32).toNatClampNeg) (5 * (cv S 222 ((r2 : Int32).toNatClampNeg) 0) : Int32).toNatClampNeg), .int (cv S 330 (((cv S 221 ((r2 : Int32).toNatClampNeg) 0) : Int32).toNatClampNeg) ((5 * (cv S 222 ((r2 : Int32).toNatClampNeg) 0)) + 1 : Int32).toNatClampNeg), .int (cv S 330 (((cv S 221 ((r2 : Int32).toNatClampNeg) 0) : Int32).toNatClampNeg) ((5 * (cv S 222 ((r2 : Int32).toNatClampNeg) 0)) + 2 : Int32).toNatClampNeg), .int (cv S 330 (((cv S 221 ((r2 : Int32).toNatClampNeg) 0) : Int32).toNatClampNeg) ((5 * (cv S 222 ((r2 : Int32).toNatClampNeg) 0)) + 3 : Int32).toNatClampNeg), .int (cv S 330 (((cv S 221 ((r2 : Int32).toNatClampNeg) 0) : Int32).toNatClampNeg) ((5 * (cv S 222 ((r2 : Int32).toNatClampNeg) 0)) + 4 : Int32).toNatClampNeg)]) (rest := []) ⟨hx, hb, hml, hown, hts⟩ (zd_X7_turnThatMayTrap l D cI cZ cP cF q S35 ((r2 : Int32).toNatClampNeg) (cv S 330 (((cv S 221 ((r2 : Int32).toNatClampNeg) 0) : Int32).toNatClampNeg) (5 * (cv S 222 ((r2 : Int32).toNatClampNeg) 0) : Int32).toNatClampNeg) (cv S 330 (((cv S 221 ((r2 : Int32).toNatClampNeg) 0) : Int32).toNatClampNeg) ((5 * (cv S 222 ((r2 : Int32).toNatClampNeg) 0)) + 1 : Int32).toNatClampNeg) (cv S 330 (((cv S 221 ((r2 : Int32).toNatClampNeg) 0) : Int32).toNatClampNeg) ((5 * (cv S 222 ((r2 : Int32).toNatClampNeg) 0)) + 2 : Int32).toNatClampNeg) (cv S 330 (((cv S 221 ((r2 : Int32).toNatClampNeg) 0) : Int32).toNatClampNeg) ((5 * (cv S 222 ((r2 : Int32).toNatClampNeg) 0)) + 3 : Int32).toNatClampNeg) (cv S 330 (((cv S 221 ((r2 : Int32).toNatClampNeg) 0) : Int32).toNatClampNeg) ((5 * (cv S 222 ((r2 : Int32).toNatClampNeg) 0)) + 4 : Int32).toNatClampNeg) H.size _ h) (cwV 6 hts zg_zd_X7_turn_zd_X7_turnThatMayTrap_186 rfl rfl rfl (by decide +kernel) ⟨Nat.le_of_ble_eq_true rfl, Nat.le_of_ble_eq_true rfl⟩) ⟨zCW, va_recv hK hP (ci := 7) (q0 := p_48) rfl hp_48, fun U hU hW => ⟨rfl, by rw [hU], by rw [hU]; exact hP, hE.warm hW, hD.weaken (fun _ _ _ _ => trivial)⟩⟩ rfl rfl hl.1 rfl (lv_room (Nat.le_of_ble_eq_true rfl)) dX7_turn_396 ⟨Nat.le_of_ble_eq_true rfl, Nat.le_of_ble_eq_true rfl⟩) hS (fun q _ h => hFc q h) hFc (fun S49 t H locs ht hvm h hB hz1 hk1 hS => ?_)
                    obtain ⟨hP, hD1, hN1⟩ := hB
                    rw [ht] at hP
                    have hD := hD1.weaken (fun k q _ hq => hFc q.1 hq)
                    have hN := hN1.trans hN
                    exact W.vret hx hb hr (fun t ht hW => ⟨⟨S49, rfl, h, by rw [ht]; exact hP, hD, hN⟩, hS.F ht⟩) hS.2.2 dX7_turn_399
                  · have h := h.2.2.2.2.2.2.1 h_in
                    refine lv_tableIn (off := 274) (tgt := 384) hx hb dX7_turn_110 (by rw [h_in]; decide) (by rw [h_in]; decide) (by rw [h_in]; decide) (by decide) ?_
                    refine lv_aload_n hx hb dX7_turn_384 rfl (lv_at hl 8 rfl) ?_
                    refine lv_aload_n hx hb dX7_turn_385 rfl (lv_at hl 7 rfl) ?_
                    refine lv_iload hx hb dX7_turn_386 (lv_at hl 4 rfl) ?_
                    refine lv_iload hx hb dX7_turn_388 (lv_at hl 3 rfl) ?_
                    refine lv_iload hx hb dX7_turn_390 (lv_at hl 2 rfl) ?_
                    refine lv_iload hx hb dX7_turn_392 (lv_at hl 1 rfl) ?_
                    refine lv_iload hx hb dX7_turn_394 (lv_at hl 0 rfl) ?_
                    obtain ⟨p_50, hp_50⟩ := cget_12 cI cZ cP cF q S35
                    have hi_50 : cin S35 12 0 := Or.inl ⟨by decide, rfl⟩
                    have hFc := zm_free hD hS hA
                    refine va_callv (va_runV (As := [.ref (q 22 ((r2 : Int32).toNatClampNeg)), .int (cv S 330 (((cv S 221 ((r2 : Int32).toNatClampNeg) 0) : Int32).toNatClampNeg) (5 * (cv S 222 ((r2 : Int32).toNatClampNeg) 0) : Int32).toNatClampNeg), .int (cv S 330 (((cv S 221 ((r2 : Int32).toNatClampNeg) 0) : Int32).toNatClampNeg) ((5 * (cv S 222 ((r2 : Int32).toNatClampNeg) 0)) + 1 : Int32).toNatClampNeg), .int (cv S 330 (((cv S 221 ((r2 : Int32).toNatClampNeg) 0) : Int32).toNatClampNeg) ((5 * (cv S 222 ((r2 : Int32).toNatClampNeg) 0)) + 2 : Int32).toNatClampNeg), .int (cv S 330 (((cv S 221 ((r2 : Int32).toNatClampNeg) 0) : Int32).toNatClampNeg) ((5 * (cv S 222 ((r2 : Int32).toNatClampNeg) 0)) + 3 : Int32).toNatClampNeg), .int (cv S 330 (((cv S 221 ((r2 : Int32).toNatClampNeg) 0) : Int32).toNatClampNeg) ((5 * (cv S 222 ((r2 : Int32).toNatClampNeg) 0)) + 4 : Int32).toNatClampNeg)]) (rest := []) ⟨hx, hb, hml, hown, hts⟩ (zd_X7_turnThatMayTrap l D cI cZ cP cF q S35 ((r2 : Int32).toNatClampNeg) (cv S 330 (((cv S 221 ((r2 : Int32).toNatClampNeg) 0) : Int32).toNatClampNeg) (5 * (cv S 222 ((r2 : Int32).toNatClampNeg) 0) : Int32).toNatClampNeg) (cv S 330 (((cv S 221 ((r2 : Int32).toNatClampNeg) 0) : Int32).toNatClampNeg) ((5 * (cv S 222 ((r2 : Int32).toNatClampNeg) 0)) + 1 : Int32).toNatClampNeg) (cv S 330 (((cv S 221 ((r2 : Int32).toNatClampNeg) 0) : Int32).toNatClampNeg) ((5 * (cv S 222 ((r2 : Int32).toNatClampNeg) 0)) + 2 : Int32).toNatClampNeg) (cv S 330 (((cv S 221 ((r2 : Int32).toNatClampNeg) 0) : Int32).toNatClampNeg) ((5 * (cv S 222 ((r2 : Int32).toNatClampNeg) 0)) + 3 : Int32).toNatClampNeg) (cv S 330 (((cv S 221 ((r2 : Int32).toNatClampNeg) 0) : Int32).toNatClampNeg) ((5 * (cv S 222 ((r2 : Int32).toNatClampNeg) 0)) + 4 : Int32).toNatClampNeg) H.size _ h) (cwV 6 hts zg_zd_X7_turn_zd_X7_turnThatMayTrap_186 rfl rfl rfl (by decide +kernel) ⟨Nat.le_of_ble_eq_true rfl, Nat.le_of_ble_eq_true rfl⟩) ⟨zCW, va_recv hK hP (ci := 7) (q0 := p_50) rfl hp_50, fun U hU hW => ⟨rfl, by rw [hU], by rw [hU]; exact hP, hE.warm hW, hD.weaken (fun _ _ _ _ => trivial)⟩⟩ rfl rfl hl.1 rfl (lv_room (Nat.le_of_ble_eq_true rfl)) dX7_turn_396 ⟨Nat.le_of_ble_eq_true rfl, Nat.le_of_ble_eq_true rfl⟩) hS (fun q _ h => hFc q h) hFc (fun S51 t H locs ht hvm h hB hz1 hk1 hS => ?_)
                    obtain ⟨hP, hD1, hN1⟩ := hB
                    rw [ht] at hP
                    have hD := hD1.weaken (fun k q _ hq => hFc q.1 hq)
                    have hN := hN1.trans hN
                    exact W.vret hx hb hr (fun t ht hW => ⟨⟨S51, rfl, h, by rw [ht]; exact hP, hD, hN⟩, hS.F ht⟩) hS.2.2 dX7_turn_399
                  · have h := h.2.2.2.2.2.2.2.1 h_in
                    refine lv_tableIn (off := 274) (tgt := 384) hx hb dX7_turn_110 (by rw [h_in]; decide) (by rw [h_in]; decide) (by rw [h_in]; decide) (by decide) ?_
                    refine lv_aload_n hx hb dX7_turn_384 rfl (lv_at hl 8 rfl) ?_
                    refine lv_aload_n hx hb dX7_turn_385 rfl (lv_at hl 7 rfl) ?_
                    refine lv_iload hx hb dX7_turn_386 (lv_at hl 4 rfl) ?_
                    refine lv_iload hx hb dX7_turn_388 (lv_at hl 3 rfl) ?_
                    refine lv_iload hx hb dX7_turn_390 (lv_at hl 2 rfl) ?_
                    refine lv_iload hx hb dX7_turn_392 (lv_at hl 1 rfl) ?_
                    refine lv_iload hx hb dX7_turn_394 (lv_at hl 0 rfl) ?_
                    obtain ⟨p_52, hp_52⟩ := cget_12 cI cZ cP cF q S35
                    have hi_52 : cin S35 12 0 := Or.inl ⟨by decide, rfl⟩
                    have hFc := zm_free hD hS hA
                    refine va_callv (va_runV (As := [.ref (q 22 ((r2 : Int32).toNatClampNeg)), .int (cv S 330 (((cv S 221 ((r2 : Int32).toNatClampNeg) 0) : Int32).toNatClampNeg) (5 * (cv S 222 ((r2 : Int32).toNatClampNeg) 0) : Int32).toNatClampNeg), .int (cv S 330 (((cv S 221 ((r2 : Int32).toNatClampNeg) 0) : Int32).toNatClampNeg) ((5 * (cv S 222 ((r2 : Int32).toNatClampNeg) 0)) + 1 : Int32).toNatClampNeg), .int (cv S 330 (((cv S 221 ((r2 : Int32).toNatClampNeg) 0) : Int32).toNatClampNeg) ((5 * (cv S 222 ((r2 : Int32).toNatClampNeg) 0)) + 2 : Int32).toNatClampNeg), .int (cv S 330 (((cv S 221 ((r2 : Int32).toNatClampNeg) 0) : Int32).toNatClampNeg) ((5 * (cv S 222 ((r2 : Int32).toNatClampNeg) 0)) + 3 : Int32).toNatClampNeg), .int (cv S 330 (((cv S 221 ((r2 : Int32).toNatClampNeg) 0) : Int32).toNatClampNeg) ((5 * (cv S 222 ((r2 : Int32).toNatClampNeg) 0)) + 4 : Int32).toNatClampNeg)]) (rest := []) ⟨hx, hb, hml, hown, hts⟩ (zd_X7_turnThatMayTrap l D cI cZ cP cF q S35 ((r2 : Int32).toNatClampNeg) (cv S 330 (((cv S 221 ((r2 : Int32).toNatClampNeg) 0) : Int32).toNatClampNeg) (5 * (cv S 222 ((r2 : Int32).toNatClampNeg) 0) : Int32).toNatClampNeg) (cv S 330 (((cv S 221 ((r2 : Int32).toNatClampNeg) 0) : Int32).toNatClampNeg) ((5 * (cv S 222 ((r2 : Int32).toNatClampNeg) 0)) + 1 : Int32).toNatClampNeg) (cv S 330 (((cv S 221 ((r2 : Int32).toNatClampNeg) 0) : Int32).toNatClampNeg) ((5 * (cv S 222 ((r2 : Int32).toNatClampNeg) 0)) + 2 : Int32).toNatClampNeg) (cv S 330 (((cv S 221 ((r2 : Int32).toNatClampNeg) 0) : Int32).toNatClampNeg) ((5 * (cv S 222 ((r2 : Int32).toNatClampNeg) 0)) + 3 : Int32).toNatClampNeg) (cv S 330 (((cv S 221 ((r2 : Int32).toNatClampNeg) 0) : Int32).toNatClampNeg) ((5 * (cv S 222 ((r2 : Int32).toNatClampNeg) 0)) + 4 : Int32).toNatClampNeg) H.size _ h) (cwV 6 hts zg_zd_X7_turn_zd_X7_turnThatMayTrap_186 rfl rfl rfl (by decide +kernel) ⟨Nat.le_of_ble_eq_true rfl, Nat.le_of_ble_eq_true rfl⟩) ⟨zCW, va_recv hK hP (ci := 7) (q0 := p_52) rfl hp_52, fun U hU hW => ⟨rfl, by rw [hU], by rw [hU]; exact hP, hE.warm hW, hD.weaken (fun _ _ _ _ => trivial)⟩⟩ rfl rfl hl.1 rfl (lv_room (Nat.le_of_ble_eq_true rfl)) dX7_turn_396 ⟨Nat.le_of_ble_eq_true rfl, Nat.le_of_ble_eq_true rfl⟩) hS (fun q _ h => hFc q h) hFc (fun S53 t H locs ht hvm h hB hz1 hk1 hS => ?_)
                    obtain ⟨hP, hD1, hN1⟩ := hB
                    rw [ht] at hP
                    have hD := hD1.weaken (fun k q _ hq => hFc q.1 hq)
                    have hN := hN1.trans hN
                    exact W.vret hx hb hr (fun t ht hW => ⟨⟨S53, rfl, h, by rw [ht]; exact hP, hD, hN⟩, hS.F ht⟩) hS.2.2 dX7_turn_399
                  · have h := h.2.2.2.2.2.2.2.2.1 h_in
                    refine lv_tableIn (off := 274) (tgt := 384) hx hb dX7_turn_110 (by rw [h_in]; decide) (by rw [h_in]; decide) (by rw [h_in]; decide) (by decide) ?_
                    refine lv_aload_n hx hb dX7_turn_384 rfl (lv_at hl 8 rfl) ?_
                    refine lv_aload_n hx hb dX7_turn_385 rfl (lv_at hl 7 rfl) ?_
                    refine lv_iload hx hb dX7_turn_386 (lv_at hl 4 rfl) ?_
                    refine lv_iload hx hb dX7_turn_388 (lv_at hl 3 rfl) ?_
                    refine lv_iload hx hb dX7_turn_390 (lv_at hl 2 rfl) ?_
                    refine lv_iload hx hb dX7_turn_392 (lv_at hl 1 rfl) ?_
                    refine lv_iload hx hb dX7_turn_394 (lv_at hl 0 rfl) ?_
                    obtain ⟨p_54, hp_54⟩ := cget_12 cI cZ cP cF q S35
                    have hi_54 : cin S35 12 0 := Or.inl ⟨by decide, rfl⟩
                    have hFc := zm_free hD hS hA
                    refine va_callv (va_runV (As := [.ref (q 22 ((r2 : Int32).toNatClampNeg)), .int (cv S 330 (((cv S 221 ((r2 : Int32).toNatClampNeg) 0) : Int32).toNatClampNeg) (5 * (cv S 222 ((r2 : Int32).toNatClampNeg) 0) : Int32).toNatClampNeg), .int (cv S 330 (((cv S 221 ((r2 : Int32).toNatClampNeg) 0) : Int32).toNatClampNeg) ((5 * (cv S 222 ((r2 : Int32).toNatClampNeg) 0)) + 1 : Int32).toNatClampNeg), .int (cv S 330 (((cv S 221 ((r2 : Int32).toNatClampNeg) 0) : Int32).toNatClampNeg) ((5 * (cv S 222 ((r2 : Int32).toNatClampNeg) 0)) + 2 : Int32).toNatClampNeg), .int (cv S 330 (((cv S 221 ((r2 : Int32).toNatClampNeg) 0) : Int32).toNatClampNeg) ((5 * (cv S 222 ((r2 : Int32).toNatClampNeg) 0)) + 3 : Int32).toNatClampNeg), .int (cv S 330 (((cv S 221 ((r2 : Int32).toNatClampNeg) 0) : Int32).toNatClampNeg) ((5 * (cv S 222 ((r2 : Int32).toNatClampNeg) 0)) + 4 : Int32).toNatClampNeg)]) (rest := []) ⟨hx, hb, hml, hown, hts⟩ (zd_X7_turnThatMayTrap l D cI cZ cP cF q S35 ((r2 : Int32).toNatClampNeg) (cv S 330 (((cv S 221 ((r2 : Int32).toNatClampNeg) 0) : Int32).toNatClampNeg) (5 * (cv S 222 ((r2 : Int32).toNatClampNeg) 0) : Int32).toNatClampNeg) (cv S 330 (((cv S 221 ((r2 : Int32).toNatClampNeg) 0) : Int32).toNatClampNeg) ((5 * (cv S 222 ((r2 : Int32).toNatClampNeg) 0)) + 1 : Int32).toNatClampNeg) (cv S 330 (((cv S 221 ((r2 : Int32).toNatClampNeg) 0) : Int32).toNatClampNeg) ((5 * (cv S 222 ((r2 : Int32).toNatClampNeg) 0)) + 2 : Int32).toNatClampNeg) (cv S 330 (((cv S 221 ((r2 : Int32).toNatClampNeg) 0) : Int32).toNatClampNeg) ((5 * (cv S 222 ((r2 : Int32).toNatClampNeg) 0)) + 3 : Int32).toNatClampNeg) (cv S 330 (((cv S 221 ((r2 : Int32).toNatClampNeg) 0) : Int32).toNatClampNeg) ((5 * (cv S 222 ((r2 : Int32).toNatClampNeg) 0)) + 4 : Int32).toNatClampNeg) H.size _ h) (cwV 6 hts zg_zd_X7_turn_zd_X7_turnThatMayTrap_186 rfl rfl rfl (by decide +kernel) ⟨Nat.le_of_ble_eq_true rfl, Nat.le_of_ble_eq_true rfl⟩) ⟨zCW, va_recv hK hP (ci := 7) (q0 := p_54) rfl hp_54, fun U hU hW => ⟨rfl, by rw [hU], by rw [hU]; exact hP, hE.warm hW, hD.weaken (fun _ _ _ _ => trivial)⟩⟩ rfl rfl hl.1 rfl (lv_room (Nat.le_of_ble_eq_true rfl)) dX7_turn_396 ⟨Nat.le_of_ble_eq_true rfl, Nat.le_of_ble_eq_true rfl⟩) hS (fun q _ h => hFc q h) hFc (fun S55 t H locs ht hvm h hB hz1 hk1 hS => ?_)
                    obtain ⟨hP, hD1, hN1⟩ := hB
                    rw [ht] at hP
                    have hD := hD1.weaken (fun k q _ hq => hFc q.1 hq)
                    have hN := hN1.trans hN
                    exact W.vret hx hb hr (fun t ht hW => ⟨⟨S55, rfl, h, by rw [ht]; exact hP, hD, hN⟩, hS.F ht⟩) hS.2.2 dX7_turn_399
                  · have h := h.2.2.2.2.2.2.2.2.2.1 h_in
                    refine lv_tableIn (off := 116) (tgt := 226) hx hb dX7_turn_110 (by rw [h_in]; decide) (by rw [h_in]; decide) (by rw [h_in]; decide) (by decide) ?_
                    refine lv_aload_n hx hb dX7_turn_226 rfl (lv_at hl 8 rfl) ?_
                    refine lv_aload_n hx hb dX7_turn_227 rfl (lv_at hl 7 rfl) ?_
                    refine lv_iload hx hb dX7_turn_228 (lv_at hl 3 rfl) ?_
                    refine lv_iload hx hb dX7_turn_230 (lv_at hl 0 rfl) ?_
                    obtain ⟨p_56, hp_56⟩ := cget_12 cI cZ cP cF q S35
                    have hi_56 : cin S35 12 0 := Or.inl ⟨by decide, rfl⟩
                    have hFc := zm_free hD hS hA
                    refine va_callv (va_runV (As := [.ref (q 22 ((r2 : Int32).toNatClampNeg)), .int (cv S 330 (((cv S 221 ((r2 : Int32).toNatClampNeg) 0) : Int32).toNatClampNeg) ((5 * (cv S 222 ((r2 : Int32).toNatClampNeg) 0)) + 1 : Int32).toNatClampNeg), .int (cv S 330 (((cv S 221 ((r2 : Int32).toNatClampNeg) 0) : Int32).toNatClampNeg) ((5 * (cv S 222 ((r2 : Int32).toNatClampNeg) 0)) + 4 : Int32).toNatClampNeg)]) (rest := []) ⟨hx, hb, hml, hown, hts⟩ (zd_X7_goTo l D cI cZ cP cF q S35 ((r2 : Int32).toNatClampNeg) (cv S 330 (((cv S 221 ((r2 : Int32).toNatClampNeg) 0) : Int32).toNatClampNeg) ((5 * (cv S 222 ((r2 : Int32).toNatClampNeg) 0)) + 1 : Int32).toNatClampNeg) (cv S 330 (((cv S 221 ((r2 : Int32).toNatClampNeg) 0) : Int32).toNatClampNeg) ((5 * (cv S 222 ((r2 : Int32).toNatClampNeg) 0)) + 4 : Int32).toNatClampNeg) H.size _ h) (cwV 3 hts zg_zd_X7_turn_zd_X7_goTo_166 rfl rfl rfl (by decide +kernel) ⟨Nat.le_of_ble_eq_true rfl, Nat.le_of_ble_eq_true rfl⟩) ⟨zCW, va_recv hK hP (ci := 7) (q0 := p_56) rfl hp_56, fun U hU hW => ⟨rfl, by rw [hU], by rw [hU]; exact hP, hE.warm hW, hD.weaken (fun _ _ _ _ => trivial)⟩⟩ rfl rfl hl.1 rfl (lv_room (Nat.le_of_ble_eq_true rfl)) dX7_turn_232 ⟨Nat.le_of_ble_eq_true rfl, Nat.le_of_ble_eq_true rfl⟩) hS (fun q _ h => hFc q h) hFc (fun S57 t H locs ht hvm h hB hz1 hk1 hS => ?_)
                    obtain ⟨hP, hD1, hN1⟩ := hB
                    rw [ht] at hP
                    have hD := hD1.weaken (fun k q _ hq => hFc q.1 hq)
                    have hN := hN1.trans hN
                    refine lv_goto (tgt := 399) hx hb dX7_turn_235 (by decide) ?_
                    exact W.vret hx hb hr (fun t ht hW => ⟨⟨S57, rfl, h, by rw [ht]; exact hP, hD, hN⟩, hS.F ht⟩) hS.2.2 dX7_turn_399
                  · have h := h.2.2.2.2.2.2.2.2.2.2.1 h_in
                    refine lv_tableIn (off := 128) (tgt := 238) hx hb dX7_turn_110 (by rw [h_in]; decide) (by rw [h_in]; decide) (by rw [h_in]; decide) (by decide) ?_
                    refine lv_aload_n hx hb dX7_turn_238 rfl (lv_at hl 7 rfl) ?_
                    refine lv_iload hx hb dX7_turn_239 (lv_at hl 2 rfl) ?_
                    have hi_58 := h.1
                    have h := h.2
                    obtain ⟨p_58, hp_58⟩ := cget_22 cI cZ cP cF q S35 hi_58
                    refine vp_callSi (va_Run.run (va_runV (As := [.int (cv S 330 (((cv S 221 ((r2 : Int32).toNatClampNeg) 0) : Int32).toNatClampNeg) ((5 * (cv S 222 ((r2 : Int32).toNatClampNeg) 0)) + 2 : Int32).toNatClampNeg)]) (rest := []) ⟨hx, hb, hml, hown, hts⟩ (zd_X4_valueOf l D cI cZ cP cF q S35 ((r2 : Int32).toNatClampNeg) (cv S 330 (((cv S 221 ((r2 : Int32).toNatClampNeg) 0) : Int32).toNatClampNeg) ((5 * (cv S 222 ((r2 : Int32).toNatClampNeg) 0)) + 2 : Int32).toNatClampNeg)  _ h) (cwV 1 hts zg_zd_X7_turn_zd_X4_valueOf_162 rfl rfl rfl (by decide +kernel) ⟨Nat.le_of_ble_eq_true rfl, Nat.le_of_ble_eq_true rfl⟩) ⟨zCR, va_recv hK hP (ci := 4) (q0 := p_58) rfl hp_58, fun U hU hW => ⟨rfl, by rw [hU]; exact hP, hE.warm hW⟩⟩ rfl rfl hl.1 rfl (lv_room (Nat.le_of_ble_eq_true rfl)) dX7_turn_241 ⟨Nat.le_of_ble_eq_true rfl, Nat.le_of_ble_eq_true rfl⟩)) (fun r59 h => ?_)
                    refine lv_if_ne (tgt := 399) hx hb dX7_turn_244 (by decide) (fun c_60 => ?_) (fun c_60 => ?_)
                    · have h := h.1 c_60
                      exact W.vret hx hb hr (fun t ht hW => ⟨⟨S35, rfl, h, by rw [ht]; exact hP, hD, hN⟩, hS.F ht⟩) hS.2.2 dX7_turn_399
                    · have h := h.2 c_60
                      refine lv_aload_n hx hb dX7_turn_247 rfl (lv_at hl 8 rfl) ?_
                      refine lv_aload_n hx hb dX7_turn_248 rfl (lv_at hl 7 rfl) ?_
                      refine lv_iload hx hb dX7_turn_249 (lv_at hl 3 rfl) ?_
                      refine lv_iload hx hb dX7_turn_251 (lv_at hl 0 rfl) ?_
                      obtain ⟨p_61, hp_61⟩ := cget_12 cI cZ cP cF q S35
                      have hi_61 : cin S35 12 0 := Or.inl ⟨by decide, rfl⟩
                      have hFc := zm_free hD hS hA
                      refine va_callv (va_runV (As := [.ref (q 22 ((r2 : Int32).toNatClampNeg)), .int (cv S 330 (((cv S 221 ((r2 : Int32).toNatClampNeg) 0) : Int32).toNatClampNeg) ((5 * (cv S 222 ((r2 : Int32).toNatClampNeg) 0)) + 1 : Int32).toNatClampNeg), .int (cv S 330 (((cv S 221 ((r2 : Int32).toNatClampNeg) 0) : Int32).toNatClampNeg) ((5 * (cv S 222 ((r2 : Int32).toNatClampNeg) 0)) + 4 : Int32).toNatClampNeg)]) (rest := []) ⟨hx, hb, hml, hown, hts⟩ (zd_X7_goTo l D cI cZ cP cF q S35 ((r2 : Int32).toNatClampNeg) (cv S 330 (((cv S 221 ((r2 : Int32).toNatClampNeg) 0) : Int32).toNatClampNeg) ((5 * (cv S 222 ((r2 : Int32).toNatClampNeg) 0)) + 1 : Int32).toNatClampNeg) (cv S 330 (((cv S 221 ((r2 : Int32).toNatClampNeg) 0) : Int32).toNatClampNeg) ((5 * (cv S 222 ((r2 : Int32).toNatClampNeg) 0)) + 4 : Int32).toNatClampNeg) H.size _ h) (cwV 3 hts zg_zd_X7_turn_zd_X7_goTo_166 rfl rfl rfl (by decide +kernel) ⟨Nat.le_of_ble_eq_true rfl, Nat.le_of_ble_eq_true rfl⟩) ⟨zCW, va_recv hK hP (ci := 7) (q0 := p_61) rfl hp_61, fun U hU hW => ⟨rfl, by rw [hU], by rw [hU]; exact hP, hE.warm hW, hD.weaken (fun _ _ _ _ => trivial)⟩⟩ rfl rfl hl.1 rfl (lv_room (Nat.le_of_ble_eq_true rfl)) dX7_turn_253 ⟨Nat.le_of_ble_eq_true rfl, Nat.le_of_ble_eq_true rfl⟩) hS (fun q _ h => hFc q h) hFc (fun S62 t H locs ht hvm h hB hz1 hk1 hS => ?_)
                      obtain ⟨hP, hD1, hN1⟩ := hB
                      rw [ht] at hP
                      have hD := hD1.weaken (fun k q _ hq => hFc q.1 hq)
                      have hN := hN1.trans hN
                      refine lv_goto (tgt := 399) hx hb dX7_turn_256 (by decide) ?_
                      exact W.vret hx hb hr (fun t ht hW => ⟨⟨S62, rfl, h, by rw [ht]; exact hP, hD, hN⟩, hS.F ht⟩) hS.2.2 dX7_turn_399
                  · have h := h.2.2.2.2.2.2.2.2.2.2.2.1 h_in
                    refine lv_tableIn (off := 149) (tgt := 259) hx hb dX7_turn_110 (by rw [h_in]; decide) (by rw [h_in]; decide) (by rw [h_in]; decide) (by decide) ?_
                    refine lv_aload_n hx hb dX7_turn_259 rfl (lv_at hl 8 rfl) ?_
                    refine lv_aload_n hx hb dX7_turn_260 rfl (lv_at hl 7 rfl) ?_
                    refine lv_iload hx hb dX7_turn_261 (lv_at hl 2 rfl) ?_
                    refine lv_iload hx hb dX7_turn_263 (lv_at hl 3 rfl) ?_
                    refine lv_iload hx hb dX7_turn_265 (lv_at hl 0 rfl) ?_
                    obtain ⟨p_63, hp_63⟩ := cget_12 cI cZ cP cF q S35
                    have hi_63 : cin S35 12 0 := Or.inl ⟨by decide, rfl⟩
                    have hFc := zm_free hD hS hA
                    refine va_callv (va_runV (As := [.ref (q 22 ((r2 : Int32).toNatClampNeg)), .int (cv S 330 (((cv S 221 ((r2 : Int32).toNatClampNeg) 0) : Int32).toNatClampNeg) ((5 * (cv S 222 ((r2 : Int32).toNatClampNeg) 0)) + 2 : Int32).toNatClampNeg), .int (cv S 330 (((cv S 221 ((r2 : Int32).toNatClampNeg) 0) : Int32).toNatClampNeg) ((5 * (cv S 222 ((r2 : Int32).toNatClampNeg) 0)) + 1 : Int32).toNatClampNeg), .int (cv S 330 (((cv S 221 ((r2 : Int32).toNatClampNeg) 0) : Int32).toNatClampNeg) ((5 * (cv S 222 ((r2 : Int32).toNatClampNeg) 0)) + 4 : Int32).toNatClampNeg)]) (rest := []) ⟨hx, hb, hml, hown, hts⟩ (zd_X7_call l D cI cZ cP cF q S35 ((r2 : Int32).toNatClampNeg) (cv S 330 (((cv S 221 ((r2 : Int32).toNatClampNeg) 0) : Int32).toNatClampNeg) ((5 * (cv S 222 ((r2 : Int32).toNatClampNeg) 0)) + 2 : Int32).toNatClampNeg) (cv S 330 (((cv S 221 ((r2 : Int32).toNatClampNeg) 0) : Int32).toNatClampNeg) ((5 * (cv S 222 ((r2 : Int32).toNatClampNeg) 0)) + 1 : Int32).toNatClampNeg) (cv S 330 (((cv S 221 ((r2 : Int32).toNatClampNeg) 0) : Int32).toNatClampNeg) ((5 * (cv S 222 ((r2 : Int32).toNatClampNeg) 0)) + 4 : Int32).toNatClampNeg) H.size _ h) (cwV 4 hts zg_zd_X7_turn_zd_X7_call_170 rfl rfl rfl (by decide +kernel) ⟨Nat.le_of_ble_eq_true rfl, Nat.le_of_ble_eq_true rfl⟩) ⟨zCW, va_recv hK hP (ci := 7) (q0 := p_63) rfl hp_63, fun U hU hW => ⟨rfl, by rw [hU], by rw [hU]; exact hP, hE.warm hW, hD.weaken (fun _ _ _ _ => trivial)⟩⟩ rfl rfl hl.1 rfl (lv_room (Nat.le_of_ble_eq_true rfl)) dX7_turn_267 ⟨Nat.le_of_ble_eq_true rfl, Nat.le_of_ble_eq_true rfl⟩) hS (fun q _ h => hFc q h) hFc (fun S64 t H locs ht hvm h hB hz1 hk1 hS => ?_)
                    obtain ⟨hP, hD1, hN1⟩ := hB
                    rw [ht] at hP
                    have hD := hD1.weaken (fun k q _ hq => hFc q.1 hq)
                    have hN := hN1.trans hN
                    refine lv_goto (tgt := 399) hx hb dX7_turn_270 (by decide) ?_
                    exact W.vret hx hb hr (fun t ht hW => ⟨⟨S64, rfl, h, by rw [ht]; exact hP, hD, hN⟩, hS.F ht⟩) hS.2.2 dX7_turn_399
                  · have h := h.2.2.2.2.2.2.2.2.2.2.2.2.1 h_in
                    refine lv_tableIn (off := 163) (tgt := 273) hx hb dX7_turn_110 (by rw [h_in]; decide) (by rw [h_in]; decide) (by rw [h_in]; decide) (by decide) ?_
                    refine lv_aload_n hx hb dX7_turn_273 rfl (lv_at hl 8 rfl) ?_
                    refine lv_aload_n hx hb dX7_turn_274 rfl (lv_at hl 7 rfl) ?_
                    refine lv_aload_n hx hb dX7_turn_275 rfl (lv_at hl 7 rfl) ?_
                    refine lv_iload hx hb dX7_turn_276 (lv_at hl 2 rfl) ?_
                    have hi_65 := h.1
                    have h := h.2
                    obtain ⟨p_65, hp_65⟩ := cget_22 cI cZ cP cF q S35 hi_65
                    refine vp_callSi (va_Run.run (va_runV (As := [.int (cv S 330 (((cv S 221 ((r2 : Int32).toNatClampNeg) 0) : Int32).toNatClampNeg) ((5 * (cv S 222 ((r2 : Int32).toNatClampNeg) 0)) + 2 : Int32).toNatClampNeg)]) (rest := [.ref (q 22 ((r2 : Int32).toNatClampNeg)), .ref (q 12 0)]) ⟨hx, hb, hml, hown, hts⟩ (zd_X4_valueOf l D cI cZ cP cF q S35 ((r2 : Int32).toNatClampNeg) (cv S 330 (((cv S 221 ((r2 : Int32).toNatClampNeg) 0) : Int32).toNatClampNeg) ((5 * (cv S 222 ((r2 : Int32).toNatClampNeg) 0)) + 2 : Int32).toNatClampNeg)  _ h) (cwV 1 hts zg_zd_X7_turn_zd_X4_valueOf_162 rfl rfl rfl (by decide +kernel) ⟨Nat.le_of_ble_eq_true rfl, Nat.le_of_ble_eq_true rfl⟩) ⟨zCR, va_recv hK hP (ci := 4) (q0 := p_65) rfl hp_65, fun U hU hW => ⟨rfl, by rw [hU]; exact hP, hE.warm hW⟩⟩ rfl rfl hl.1 rfl (lv_room (Nat.le_of_ble_eq_true rfl)) dX7_turn_278 ⟨Nat.le_of_ble_eq_true rfl, Nat.le_of_ble_eq_true rfl⟩)) (fun r66 h => ?_)
                    obtain ⟨p_67, hp_67⟩ := cget_12 cI cZ cP cF q S35
                    have hi_67 : cin S35 12 0 := Or.inl ⟨by decide, rfl⟩
                    have hFc := zm_free hD hS hA
                    refine va_callv (va_runV (As := [.ref (q 22 ((r2 : Int32).toNatClampNeg)), .int r66]) (rest := []) ⟨hx, hb, hml, hown, hts⟩ (zd_X7_giveBack l D cI cZ cP cF q S35 ((r2 : Int32).toNatClampNeg) r66 H.size _ h) (cwV 2 hts zg_zd_X7_turn_zd_X7_giveBack_174 rfl rfl rfl (by decide +kernel) ⟨Nat.le_of_ble_eq_true rfl, Nat.le_of_ble_eq_true rfl⟩) ⟨zCW, va_recv hK hP (ci := 7) (q0 := p_67) rfl hp_67, fun U hU hW => ⟨rfl, by rw [hU], by rw [hU]; exact hP, hE.warm hW, hD.weaken (fun _ _ _ _ => trivial)⟩⟩ rfl rfl hl.1 rfl (lv_room (Nat.le_of_ble_eq_true rfl)) dX7_turn_281 ⟨Nat.le_of_ble_eq_true rfl, Nat.le_of_ble_eq_true rfl⟩) hS (fun q _ h => hFc q h) hFc (fun S68 t H locs ht hvm h hB hz1 hk1 hS => ?_)
                    obtain ⟨hP, hD1, hN1⟩ := hB
                    rw [ht] at hP
                    have hD := hD1.weaken (fun k q _ hq => hFc q.1 hq)
                    have hN := hN1.trans hN
                    refine lv_goto (tgt := 399) hx hb dX7_turn_284 (by decide) ?_
                    exact W.vret hx hb hr (fun t ht hW => ⟨⟨S68, rfl, h, by rw [ht]; exact hP, hD, hN⟩, hS.F ht⟩) hS.2.2 dX7_turn_399
                  · have h := h.2.2.2.2.2.2.2.2.2.2.2.2.2.1 h_in
                    refine lv_tableIn (off := 238) (tgt := 348) hx hb dX7_turn_110 (by rw [h_in]; decide) (by rw [h_in]; decide) (by rw [h_in]; decide) (by decide) ?_
                    refine lv_aload_n hx hb dX7_turn_348 rfl (lv_at hl 7 rfl) ?_
                    refine lv_iload hx hb dX7_turn_349 (lv_at hl 3 rfl) ?_
                    refine lv_aload_n hx hb dX7_turn_351 rfl (lv_at hl 8 rfl) ?_
                    obtain ⟨p_69, hp_69⟩ := cget_12 cI cZ cP cF q S35
                    have hi_69 : cin S35 12 0 := Or.inl ⟨by decide, rfl⟩
                    refine va_get (D := D) (ci := 7) (v := .ref (q 3 0)) (C := RX7) (T := TX7) (N := 10) hx hb hts (fun _ h => List.mem_cons_of_mem _ (List.mem_append_left _ (List.mem_append_left _ (List.mem_append_left _ (List.mem_append_left _ (List.mem_append_left _ (List.mem_append_left _ (List.mem_append_right _ h)))))))) hown hK hP p_69 hp_69 rfl 1 (by decide) (hts (.fieldLink RX7 32 "TemplateForge$Machine" "data" "LTemplateForge$Data;") (List.mem_of_getElem? (i := 46) rfl)) (fun _ h9 => h9) rfl dX7_turn_352 ?_
                    refine lv_iload hx hb dX7_turn_355 (lv_at hl 2 rfl) ?_
                    obtain ⟨p_70, hp_70⟩ := cget_3 cI cZ cP cF q S35
                    have hi_70 : cin S35 3 0 := Or.inl ⟨by decide, rfl⟩
                    refine vp_callSi (va_Run.run (va_runV (As := [.int (cv S 330 (((cv S 221 ((r2 : Int32).toNatClampNeg) 0) : Int32).toNatClampNeg) ((5 * (cv S 222 ((r2 : Int32).toNatClampNeg) 0)) + 2 : Int32).toNatClampNeg)]) (rest := [.int (cv S 330 (((cv S 221 ((r2 : Int32).toNatClampNeg) 0) : Int32).toNatClampNeg) ((5 * (cv S 222 ((r2 : Int32).toNatClampNeg) 0)) + 1 : Int32).toNatClampNeg), .ref (q 22 ((r2 : Int32).toNatClampNeg))]) ⟨hx, hb, hml, hown, hts⟩ (zd_X2_valueOf l D cI cZ cP cF q S35 (cv S 330 (((cv S 221 ((r2 : Int32).toNatClampNeg) 0) : Int32).toNatClampNeg) ((5 * (cv S 222 ((r2 : Int32).toNatClampNeg) 0)) + 2 : Int32).toNatClampNeg)  _ h) (cwV 1 hts zg_zd_X7_turn_zd_X2_valueOf_182 rfl rfl rfl (by decide +kernel) ⟨Nat.le_of_ble_eq_true rfl, Nat.le_of_ble_eq_true rfl⟩) ⟨zCR, va_recv hK hP (ci := 2) (q0 := p_70) rfl hp_70, fun U hU hW => ⟨rfl, by rw [hU]; exact hP, hE.warm hW⟩⟩ rfl rfl hl.1 rfl (lv_room (Nat.le_of_ble_eq_true rfl)) dX7_turn_357 ⟨Nat.le_of_ble_eq_true rfl, Nat.le_of_ble_eq_true rfl⟩)) (fun r71 h => ?_)
                    have hi_72 := h.1
                    have h := h.2
                    obtain ⟨p_72, hp_72⟩ := cget_22 cI cZ cP cF q S35 hi_72
                    have hFc := zm_free hD hS hA
                    refine va_callv (va_runV (As := [.int (cv S 330 (((cv S 221 ((r2 : Int32).toNatClampNeg) 0) : Int32).toNatClampNeg) ((5 * (cv S 222 ((r2 : Int32).toNatClampNeg) 0)) + 1 : Int32).toNatClampNeg), .int r71]) (rest := []) ⟨hx, hb, hml, hown, hts⟩ (zd_X4_put l D cI cZ cP cF q S35 ((r2 : Int32).toNatClampNeg) (cv S 330 (((cv S 221 ((r2 : Int32).toNatClampNeg) 0) : Int32).toNatClampNeg) ((5 * (cv S 222 ((r2 : Int32).toNatClampNeg) 0)) + 1 : Int32).toNatClampNeg) r71 H.size _ h) (cwV 2 hts zg_zd_X7_turn_zd_X4_put_107 rfl rfl rfl (by decide +kernel) ⟨Nat.le_of_ble_eq_true rfl, Nat.le_of_ble_eq_true rfl⟩) ⟨zCW, va_recv hK hP (ci := 4) (q0 := p_72) rfl hp_72, fun U hU hW => ⟨rfl, by rw [hU], by rw [hU]; exact hP, hE.warm hW, hD.weaken (fun _ _ _ _ => trivial)⟩⟩ rfl rfl hl.1 rfl (lv_room (Nat.le_of_ble_eq_true rfl)) dX7_turn_360 ⟨Nat.le_of_ble_eq_true rfl, Nat.le_of_ble_eq_true rfl⟩) hS (fun q _ h => hFc q h) hFc (fun S73 t H locs ht hvm h hB hz1 hk1 hS => ?_)
                    obtain ⟨hP, hD1, hN1⟩ := hB
                    rw [ht] at hP
                    have hD := hD1.weaken (fun k q _ hq => hFc q.1 hq)
                    have hN := hN1.trans hN
                    refine lv_goto (tgt := 399) hx hb dX7_turn_363 (by decide) ?_
                    exact W.vret hx hb hr (fun t ht hW => ⟨⟨S73, rfl, h, by rw [ht]; exact hP, hD, hN⟩, hS.F ht⟩) hS.2.2 dX7_turn_399
                  · have h := h.2.2.2.2.2.2.2.2.2.2.2.2.2.2.1 h_in
                    refine lv_tableIn (off := 256) (tgt := 366) hx hb dX7_turn_110 (by rw [h_in]; decide) (by rw [h_in]; decide) (by rw [h_in]; decide) (by decide) ?_
                    refine lv_aload_n hx hb dX7_turn_366 rfl (lv_at hl 8 rfl) ?_
                    obtain ⟨p_74, hp_74⟩ := cget_12 cI cZ cP cF q S35
                    have hi_74 : cin S35 12 0 := Or.inl ⟨by decide, rfl⟩
                    refine va_get (D := D) (ci := 7) (v := .ref (q 3 0)) (C := RX7) (T := TX7) (N := 10) hx hb hts (fun _ h => List.mem_cons_of_mem _ (List.mem_append_left _ (List.mem_append_left _ (List.mem_append_left _ (List.mem_append_left _ (List.mem_append_left _ (List.mem_append_left _ (List.mem_append_right _ h)))))))) hown hK hP p_74 hp_74 rfl 1 (by decide) (hts (.fieldLink RX7 32 "TemplateForge$Machine" "data" "LTemplateForge$Data;") (List.mem_of_getElem? (i := 46) rfl)) (fun _ h9 => h9) rfl dX7_turn_367 ?_
                    refine lv_iload hx hb dX7_turn_370 (lv_at hl 3 rfl) ?_
                    refine lv_aload_n hx hb dX7_turn_372 rfl (lv_at hl 7 rfl) ?_
                    refine lv_iload hx hb dX7_turn_373 (lv_at hl 2 rfl) ?_
                    have hi_75 := h.1
                    have h := h.2
                    obtain ⟨p_75, hp_75⟩ := cget_22 cI cZ cP cF q S35 hi_75
                    refine vp_callSi (va_Run.run (va_runV (As := [.int (cv S 330 (((cv S 221 ((r2 : Int32).toNatClampNeg) 0) : Int32).toNatClampNeg) ((5 * (cv S 222 ((r2 : Int32).toNatClampNeg) 0)) + 2 : Int32).toNatClampNeg)]) (rest := [.int (cv S 330 (((cv S 221 ((r2 : Int32).toNatClampNeg) 0) : Int32).toNatClampNeg) ((5 * (cv S 222 ((r2 : Int32).toNatClampNeg) 0)) + 1 : Int32).toNatClampNeg), .ref (q 3 0)]) ⟨hx, hb, hml, hown, hts⟩ (zd_X4_valueOf l D cI cZ cP cF q S35 ((r2 : Int32).toNatClampNeg) (cv S 330 (((cv S 221 ((r2 : Int32).toNatClampNeg) 0) : Int32).toNatClampNeg) ((5 * (cv S 222 ((r2 : Int32).toNatClampNeg) 0)) + 2 : Int32).toNatClampNeg)  _ h) (cwV 1 hts zg_zd_X7_turn_zd_X4_valueOf_162 rfl rfl rfl (by decide +kernel) ⟨Nat.le_of_ble_eq_true rfl, Nat.le_of_ble_eq_true rfl⟩) ⟨zCR, va_recv hK hP (ci := 4) (q0 := p_75) rfl hp_75, fun U hU hW => ⟨rfl, by rw [hU]; exact hP, hE.warm hW⟩⟩ rfl rfl hl.1 rfl (lv_room (Nat.le_of_ble_eq_true rfl)) dX7_turn_375 ⟨Nat.le_of_ble_eq_true rfl, Nat.le_of_ble_eq_true rfl⟩)) (fun r76 h => ?_)
                    obtain ⟨p_77, hp_77⟩ := cget_3 cI cZ cP cF q S35
                    have hi_77 : cin S35 3 0 := Or.inl ⟨by decide, rfl⟩
                    have hFc := zm_free hD hS hA
                    refine va_callv (va_runV (As := [.int (cv S 330 (((cv S 221 ((r2 : Int32).toNatClampNeg) 0) : Int32).toNatClampNeg) ((5 * (cv S 222 ((r2 : Int32).toNatClampNeg) 0)) + 1 : Int32).toNatClampNeg), .int r76]) (rest := []) ⟨hx, hb, hml, hown, hts⟩ (zd_X2_put l D cI cZ cP cF q S35 (cv S 330 (((cv S 221 ((r2 : Int32).toNatClampNeg) 0) : Int32).toNatClampNeg) ((5 * (cv S 222 ((r2 : Int32).toNatClampNeg) 0)) + 1 : Int32).toNatClampNeg) r76 H.size _ h) (cwV 2 hts zg_zd_X7_turn_zd_X2_put_185 rfl rfl rfl (by decide +kernel) ⟨Nat.le_of_ble_eq_true rfl, Nat.le_of_ble_eq_true rfl⟩) ⟨zCW, va_recv hK hP (ci := 2) (q0 := p_77) rfl hp_77, fun U hU hW => ⟨rfl, by rw [hU], by rw [hU]; exact hP, hE.warm hW, hD.weaken (fun _ _ _ _ => trivial)⟩⟩ rfl rfl hl.1 rfl (lv_room (Nat.le_of_ble_eq_true rfl)) dX7_turn_378 ⟨Nat.le_of_ble_eq_true rfl, Nat.le_of_ble_eq_true rfl⟩) hS (fun q _ h => hFc q h) hFc (fun S78 t H locs ht hvm h hB hz1 hk1 hS => ?_)
                    obtain ⟨hP, hD1, hN1⟩ := hB
                    rw [ht] at hP
                    have hD := hD1.weaken (fun k q _ hq => hFc q.1 hq)
                    have hN := hN1.trans hN
                    refine lv_goto (tgt := 399) hx hb dX7_turn_381 (by decide) ?_
                    exact W.vret hx hb hr (fun t ht hW => ⟨⟨S78, rfl, h, by rw [ht]; exact hP, hD, hN⟩, hS.F ht⟩) hS.2.2 dX7_turn_399
                  · have h := h.2.2.2.2.2.2.2.2.2.2.2.2.2.2.2.1 h_in
                    refine lv_tableIn (off := 274) (tgt := 384) hx hb dX7_turn_110 (by rw [h_in]; decide) (by rw [h_in]; decide) (by rw [h_in]; decide) (by decide) ?_
                    refine lv_aload_n hx hb dX7_turn_384 rfl (lv_at hl 8 rfl) ?_
                    refine lv_aload_n hx hb dX7_turn_385 rfl (lv_at hl 7 rfl) ?_
                    refine lv_iload hx hb dX7_turn_386 (lv_at hl 4 rfl) ?_
                    refine lv_iload hx hb dX7_turn_388 (lv_at hl 3 rfl) ?_
                    refine lv_iload hx hb dX7_turn_390 (lv_at hl 2 rfl) ?_
                    refine lv_iload hx hb dX7_turn_392 (lv_at hl 1 rfl) ?_
                    refine lv_iload hx hb dX7_turn_394 (lv_at hl 0 rfl) ?_
                    obtain ⟨p_79, hp_79⟩ := cget_12 cI cZ cP cF q S35
                    have hi_79 : cin S35 12 0 := Or.inl ⟨by decide, rfl⟩
                    have hFc := zm_free hD hS hA
                    refine va_callv (va_runV (As := [.ref (q 22 ((r2 : Int32).toNatClampNeg)), .int (cv S 330 (((cv S 221 ((r2 : Int32).toNatClampNeg) 0) : Int32).toNatClampNeg) (5 * (cv S 222 ((r2 : Int32).toNatClampNeg) 0) : Int32).toNatClampNeg), .int (cv S 330 (((cv S 221 ((r2 : Int32).toNatClampNeg) 0) : Int32).toNatClampNeg) ((5 * (cv S 222 ((r2 : Int32).toNatClampNeg) 0)) + 1 : Int32).toNatClampNeg), .int (cv S 330 (((cv S 221 ((r2 : Int32).toNatClampNeg) 0) : Int32).toNatClampNeg) ((5 * (cv S 222 ((r2 : Int32).toNatClampNeg) 0)) + 2 : Int32).toNatClampNeg), .int (cv S 330 (((cv S 221 ((r2 : Int32).toNatClampNeg) 0) : Int32).toNatClampNeg) ((5 * (cv S 222 ((r2 : Int32).toNatClampNeg) 0)) + 3 : Int32).toNatClampNeg), .int (cv S 330 (((cv S 221 ((r2 : Int32).toNatClampNeg) 0) : Int32).toNatClampNeg) ((5 * (cv S 222 ((r2 : Int32).toNatClampNeg) 0)) + 4 : Int32).toNatClampNeg)]) (rest := []) ⟨hx, hb, hml, hown, hts⟩ (zd_X7_turnThatMayTrap l D cI cZ cP cF q S35 ((r2 : Int32).toNatClampNeg) (cv S 330 (((cv S 221 ((r2 : Int32).toNatClampNeg) 0) : Int32).toNatClampNeg) (5 * (cv S 222 ((r2 : Int32).toNatClampNeg) 0) : Int32).toNatClampNeg) (cv S 330 (((cv S 221 ((r2 : Int32).toNatClampNeg) 0) : Int32).toNatClampNeg) ((5 * (cv S 222 ((r2 : Int32).toNatClampNeg) 0)) + 1 : Int32).toNatClampNeg) (cv S 330 (((cv S 221 ((r2 : Int32).toNatClampNeg) 0) : Int32).toNatClampNeg) ((5 * (cv S 222 ((r2 : Int32).toNatClampNeg) 0)) + 2 : Int32).toNatClampNeg) (cv S 330 (((cv S 221 ((r2 : Int32).toNatClampNeg) 0) : Int32).toNatClampNeg) ((5 * (cv S 222 ((r2 : Int32).toNatClampNeg) 0)) + 3 : Int32).toNatClampNeg) (cv S 330 (((cv S 221 ((r2 : Int32).toNatClampNeg) 0) : Int32).toNatClampNeg) ((5 * (cv S 222 ((r2 : Int32).toNatClampNeg) 0)) + 4 : Int32).toNatClampNeg) H.size _ h) (cwV 6 hts zg_zd_X7_turn_zd_X7_turnThatMayTrap_186 rfl rfl rfl (by decide +kernel) ⟨Nat.le_of_ble_eq_true rfl, Nat.le_of_ble_eq_true rfl⟩) ⟨zCW, va_recv hK hP (ci := 7) (q0 := p_79) rfl hp_79, fun U hU hW => ⟨rfl, by rw [hU], by rw [hU]; exact hP, hE.warm hW, hD.weaken (fun _ _ _ _ => trivial)⟩⟩ rfl rfl hl.1 rfl (lv_room (Nat.le_of_ble_eq_true rfl)) dX7_turn_396 ⟨Nat.le_of_ble_eq_true rfl, Nat.le_of_ble_eq_true rfl⟩) hS (fun q _ h => hFc q h) hFc (fun S80 t H locs ht hvm h hB hz1 hk1 hS => ?_)
                    obtain ⟨hP, hD1, hN1⟩ := hB
                    rw [ht] at hP
                    have hD := hD1.weaken (fun k q _ hq => hFc q.1 hq)
                    have hN := hN1.trans hN
                    exact W.vret hx hb hr (fun t ht hW => ⟨⟨S80, rfl, h, by rw [ht]; exact hP, hD, hN⟩, hS.F ht⟩) hS.2.2 dX7_turn_399
                  · have h := h.2.2.2.2.2.2.2.2.2.2.2.2.2.2.2.2.1 h_in
                    refine lv_tableIn (off := 274) (tgt := 384) hx hb dX7_turn_110 (by rw [h_in]; decide) (by rw [h_in]; decide) (by rw [h_in]; decide) (by decide) ?_
                    refine lv_aload_n hx hb dX7_turn_384 rfl (lv_at hl 8 rfl) ?_
                    refine lv_aload_n hx hb dX7_turn_385 rfl (lv_at hl 7 rfl) ?_
                    refine lv_iload hx hb dX7_turn_386 (lv_at hl 4 rfl) ?_
                    refine lv_iload hx hb dX7_turn_388 (lv_at hl 3 rfl) ?_
                    refine lv_iload hx hb dX7_turn_390 (lv_at hl 2 rfl) ?_
                    refine lv_iload hx hb dX7_turn_392 (lv_at hl 1 rfl) ?_
                    refine lv_iload hx hb dX7_turn_394 (lv_at hl 0 rfl) ?_
                    obtain ⟨p_81, hp_81⟩ := cget_12 cI cZ cP cF q S35
                    have hi_81 : cin S35 12 0 := Or.inl ⟨by decide, rfl⟩
                    have hFc := zm_free hD hS hA
                    refine va_callv (va_runV (As := [.ref (q 22 ((r2 : Int32).toNatClampNeg)), .int (cv S 330 (((cv S 221 ((r2 : Int32).toNatClampNeg) 0) : Int32).toNatClampNeg) (5 * (cv S 222 ((r2 : Int32).toNatClampNeg) 0) : Int32).toNatClampNeg), .int (cv S 330 (((cv S 221 ((r2 : Int32).toNatClampNeg) 0) : Int32).toNatClampNeg) ((5 * (cv S 222 ((r2 : Int32).toNatClampNeg) 0)) + 1 : Int32).toNatClampNeg), .int (cv S 330 (((cv S 221 ((r2 : Int32).toNatClampNeg) 0) : Int32).toNatClampNeg) ((5 * (cv S 222 ((r2 : Int32).toNatClampNeg) 0)) + 2 : Int32).toNatClampNeg), .int (cv S 330 (((cv S 221 ((r2 : Int32).toNatClampNeg) 0) : Int32).toNatClampNeg) ((5 * (cv S 222 ((r2 : Int32).toNatClampNeg) 0)) + 3 : Int32).toNatClampNeg), .int (cv S 330 (((cv S 221 ((r2 : Int32).toNatClampNeg) 0) : Int32).toNatClampNeg) ((5 * (cv S 222 ((r2 : Int32).toNatClampNeg) 0)) + 4 : Int32).toNatClampNeg)]) (rest := []) ⟨hx, hb, hml, hown, hts⟩ (zd_X7_turnThatMayTrap l D cI cZ cP cF q S35 ((r2 : Int32).toNatClampNeg) (cv S 330 (((cv S 221 ((r2 : Int32).toNatClampNeg) 0) : Int32).toNatClampNeg) (5 * (cv S 222 ((r2 : Int32).toNatClampNeg) 0) : Int32).toNatClampNeg) (cv S 330 (((cv S 221 ((r2 : Int32).toNatClampNeg) 0) : Int32).toNatClampNeg) ((5 * (cv S 222 ((r2 : Int32).toNatClampNeg) 0)) + 1 : Int32).toNatClampNeg) (cv S 330 (((cv S 221 ((r2 : Int32).toNatClampNeg) 0) : Int32).toNatClampNeg) ((5 * (cv S 222 ((r2 : Int32).toNatClampNeg) 0)) + 2 : Int32).toNatClampNeg) (cv S 330 (((cv S 221 ((r2 : Int32).toNatClampNeg) 0) : Int32).toNatClampNeg) ((5 * (cv S 222 ((r2 : Int32).toNatClampNeg) 0)) + 3 : Int32).toNatClampNeg) (cv S 330 (((cv S 221 ((r2 : Int32).toNatClampNeg) 0) : Int32).toNatClampNeg) ((5 * (cv S 222 ((r2 : Int32).toNatClampNeg) 0)) + 4 : Int32).toNatClampNeg) H.size _ h) (cwV 6 hts zg_zd_X7_turn_zd_X7_turnThatMayTrap_186 rfl rfl rfl (by decide +kernel) ⟨Nat.le_of_ble_eq_true rfl, Nat.le_of_ble_eq_true rfl⟩) ⟨zCW, va_recv hK hP (ci := 7) (q0 := p_81) rfl hp_81, fun U hU hW => ⟨rfl, by rw [hU], by rw [hU]; exact hP, hE.warm hW, hD.weaken (fun _ _ _ _ => trivial)⟩⟩ rfl rfl hl.1 rfl (lv_room (Nat.le_of_ble_eq_true rfl)) dX7_turn_396 ⟨Nat.le_of_ble_eq_true rfl, Nat.le_of_ble_eq_true rfl⟩) hS (fun q _ h => hFc q h) hFc (fun S82 t H locs ht hvm h hB hz1 hk1 hS => ?_)
                    obtain ⟨hP, hD1, hN1⟩ := hB
                    rw [ht] at hP
                    have hD := hD1.weaken (fun k q _ hq => hFc q.1 hq)
                    have hN := hN1.trans hN
                    exact W.vret hx hb hr (fun t ht hW => ⟨⟨S82, rfl, h, by rw [ht]; exact hP, hD, hN⟩, hS.F ht⟩) hS.2.2 dX7_turn_399
                  · have h := h.2.2.2.2.2.2.2.2.2.2.2.2.2.2.2.2.2.1 h_in
                    refine lv_tableIn (off := 274) (tgt := 384) hx hb dX7_turn_110 (by rw [h_in]; decide) (by rw [h_in]; decide) (by rw [h_in]; decide) (by decide) ?_
                    refine lv_aload_n hx hb dX7_turn_384 rfl (lv_at hl 8 rfl) ?_
                    refine lv_aload_n hx hb dX7_turn_385 rfl (lv_at hl 7 rfl) ?_
                    refine lv_iload hx hb dX7_turn_386 (lv_at hl 4 rfl) ?_
                    refine lv_iload hx hb dX7_turn_388 (lv_at hl 3 rfl) ?_
                    refine lv_iload hx hb dX7_turn_390 (lv_at hl 2 rfl) ?_
                    refine lv_iload hx hb dX7_turn_392 (lv_at hl 1 rfl) ?_
                    refine lv_iload hx hb dX7_turn_394 (lv_at hl 0 rfl) ?_
                    obtain ⟨p_83, hp_83⟩ := cget_12 cI cZ cP cF q S35
                    have hi_83 : cin S35 12 0 := Or.inl ⟨by decide, rfl⟩
                    have hFc := zm_free hD hS hA
                    refine va_callv (va_runV (As := [.ref (q 22 ((r2 : Int32).toNatClampNeg)), .int (cv S 330 (((cv S 221 ((r2 : Int32).toNatClampNeg) 0) : Int32).toNatClampNeg) (5 * (cv S 222 ((r2 : Int32).toNatClampNeg) 0) : Int32).toNatClampNeg), .int (cv S 330 (((cv S 221 ((r2 : Int32).toNatClampNeg) 0) : Int32).toNatClampNeg) ((5 * (cv S 222 ((r2 : Int32).toNatClampNeg) 0)) + 1 : Int32).toNatClampNeg), .int (cv S 330 (((cv S 221 ((r2 : Int32).toNatClampNeg) 0) : Int32).toNatClampNeg) ((5 * (cv S 222 ((r2 : Int32).toNatClampNeg) 0)) + 2 : Int32).toNatClampNeg), .int (cv S 330 (((cv S 221 ((r2 : Int32).toNatClampNeg) 0) : Int32).toNatClampNeg) ((5 * (cv S 222 ((r2 : Int32).toNatClampNeg) 0)) + 3 : Int32).toNatClampNeg), .int (cv S 330 (((cv S 221 ((r2 : Int32).toNatClampNeg) 0) : Int32).toNatClampNeg) ((5 * (cv S 222 ((r2 : Int32).toNatClampNeg) 0)) + 4 : Int32).toNatClampNeg)]) (rest := []) ⟨hx, hb, hml, hown, hts⟩ (zd_X7_turnThatMayTrap l D cI cZ cP cF q S35 ((r2 : Int32).toNatClampNeg) (cv S 330 (((cv S 221 ((r2 : Int32).toNatClampNeg) 0) : Int32).toNatClampNeg) (5 * (cv S 222 ((r2 : Int32).toNatClampNeg) 0) : Int32).toNatClampNeg) (cv S 330 (((cv S 221 ((r2 : Int32).toNatClampNeg) 0) : Int32).toNatClampNeg) ((5 * (cv S 222 ((r2 : Int32).toNatClampNeg) 0)) + 1 : Int32).toNatClampNeg) (cv S 330 (((cv S 221 ((r2 : Int32).toNatClampNeg) 0) : Int32).toNatClampNeg) ((5 * (cv S 222 ((r2 : Int32).toNatClampNeg) 0)) + 2 : Int32).toNatClampNeg) (cv S 330 (((cv S 221 ((r2 : Int32).toNatClampNeg) 0) : Int32).toNatClampNeg) ((5 * (cv S 222 ((r2 : Int32).toNatClampNeg) 0)) + 3 : Int32).toNatClampNeg) (cv S 330 (((cv S 221 ((r2 : Int32).toNatClampNeg) 0) : Int32).toNatClampNeg) ((5 * (cv S 222 ((r2 : Int32).toNatClampNeg) 0)) + 4 : Int32).toNatClampNeg) H.size _ h) (cwV 6 hts zg_zd_X7_turn_zd_X7_turnThatMayTrap_186 rfl rfl rfl (by decide +kernel) ⟨Nat.le_of_ble_eq_true rfl, Nat.le_of_ble_eq_true rfl⟩) ⟨zCW, va_recv hK hP (ci := 7) (q0 := p_83) rfl hp_83, fun U hU hW => ⟨rfl, by rw [hU], by rw [hU]; exact hP, hE.warm hW, hD.weaken (fun _ _ _ _ => trivial)⟩⟩ rfl rfl hl.1 rfl (lv_room (Nat.le_of_ble_eq_true rfl)) dX7_turn_396 ⟨Nat.le_of_ble_eq_true rfl, Nat.le_of_ble_eq_true rfl⟩) hS (fun q _ h => hFc q h) hFc (fun S84 t H locs ht hvm h hB hz1 hk1 hS => ?_)
                    obtain ⟨hP, hD1, hN1⟩ := hB
                    rw [ht] at hP
                    have hD := hD1.weaken (fun k q _ hq => hFc q.1 hq)
                    have hN := hN1.trans hN
                    exact W.vret hx hb hr (fun t ht hW => ⟨⟨S84, rfl, h, by rw [ht]; exact hP, hD, hN⟩, hS.F ht⟩) hS.2.2 dX7_turn_399
                  · have h := h.2.2.2.2.2.2.2.2.2.2.2.2.2.2.2.2.2.2.1 h_in
                    refine lv_tableIn (off := 177) (tgt := 287) hx hb dX7_turn_110 (by rw [h_in]; decide) (by rw [h_in]; decide) (by rw [h_in]; decide) (by decide) ?_
                    refine lv_aload_n hx hb dX7_turn_287 rfl (lv_at hl 8 rfl) ?_
                    refine lv_aload_n hx hb dX7_turn_288 rfl (lv_at hl 7 rfl) ?_
                    refine lv_iload hx hb dX7_turn_289 (lv_at hl 3 rfl) ?_
                    refine lv_aload_n hx hb dX7_turn_291 rfl (lv_at hl 7 rfl) ?_
                    refine lv_iload hx hb dX7_turn_292 (lv_at hl 3 rfl) ?_
                    have hi_85 := h.1
                    have h := h.2
                    obtain ⟨p_85, hp_85⟩ := cget_22 cI cZ cP cF q S35 hi_85
                    refine vp_callSi (va_Run.run (va_runV (As := [.int (cv S 330 (((cv S 221 ((r2 : Int32).toNatClampNeg) 0) : Int32).toNatClampNeg) ((5 * (cv S 222 ((r2 : Int32).toNatClampNeg) 0)) + 1 : Int32).toNatClampNeg)]) (rest := [.int (cv S 330 (((cv S 221 ((r2 : Int32).toNatClampNeg) 0) : Int32).toNatClampNeg) ((5 * (cv S 222 ((r2 : Int32).toNatClampNeg) 0)) + 1 : Int32).toNatClampNeg), .ref (q 22 ((r2 : Int32).toNatClampNeg)), .ref (q 12 0)]) ⟨hx, hb, hml, hown, hts⟩ (zd_X4_valueOf l D cI cZ cP cF q S35 ((r2 : Int32).toNatClampNeg) (cv S 330 (((cv S 221 ((r2 : Int32).toNatClampNeg) 0) : Int32).toNatClampNeg) ((5 * (cv S 222 ((r2 : Int32).toNatClampNeg) 0)) + 1 : Int32).toNatClampNeg)  _ h) (cwV 1 hts zg_zd_X7_turn_zd_X4_valueOf_162 rfl rfl rfl (by decide +kernel) ⟨Nat.le_of_ble_eq_true rfl, Nat.le_of_ble_eq_true rfl⟩) ⟨zCR, va_recv hK hP (ci := 4) (q0 := p_85) rfl hp_85, fun U hU hW => ⟨rfl, by rw [hU]; exact hP, hE.warm hW⟩⟩ rfl rfl hl.1 rfl (lv_room (Nat.le_of_ble_eq_true rfl)) dX7_turn_294 ⟨Nat.le_of_ble_eq_true rfl, Nat.le_of_ble_eq_true rfl⟩)) (fun r86 h => ?_)
                    refine lv_iload hx hb dX7_turn_297 (lv_at hl 2 rfl) ?_
                    refine lv_icmp_ne (tgt := 306) hx hb dX7_turn_299 (by decide) (fun c_87 => ?_) (fun c_87 => ?_)
                    · have h := h.1 c_87
                      refine lv_iconst (v := 0) hx hb dX7_turn_306 (by decide) ?_
                      refine lv_iload hx hb dX7_turn_307 (lv_at hl 0 rfl) ?_
                      obtain ⟨p_88, hp_88⟩ := cget_12 cI cZ cP cF q S35
                      have hi_88 : cin S35 12 0 := Or.inl ⟨by decide, rfl⟩
                      have hFc := zm_free hD hS hA
                      refine va_callv (va_runV (As := [.ref (q 22 ((r2 : Int32).toNatClampNeg)), .int (cv S 330 (((cv S 221 ((r2 : Int32).toNatClampNeg) 0) : Int32).toNatClampNeg) ((5 * (cv S 222 ((r2 : Int32).toNatClampNeg) 0)) + 1 : Int32).toNatClampNeg), .int 0, .int (cv S 330 (((cv S 221 ((r2 : Int32).toNatClampNeg) 0) : Int32).toNatClampNeg) ((5 * (cv S 222 ((r2 : Int32).toNatClampNeg) 0)) + 4 : Int32).toNatClampNeg)]) (rest := []) ⟨hx, hb, hml, hown, hts⟩ (zd_X7_guard l D cI cZ cP cF q S35 ((r2 : Int32).toNatClampNeg) (cv S 330 (((cv S 221 ((r2 : Int32).toNatClampNeg) 0) : Int32).toNatClampNeg) ((5 * (cv S 222 ((r2 : Int32).toNatClampNeg) 0)) + 1 : Int32).toNatClampNeg) 0 (cv S 330 (((cv S 221 ((r2 : Int32).toNatClampNeg) 0) : Int32).toNatClampNeg) ((5 * (cv S 222 ((r2 : Int32).toNatClampNeg) 0)) + 4 : Int32).toNatClampNeg) H.size _ h) (cwV 4 hts zg_zd_X7_turn_zd_X7_guard_178 rfl rfl rfl (by decide +kernel) ⟨Nat.le_of_ble_eq_true rfl, Nat.le_of_ble_eq_true rfl⟩) ⟨zCW, va_recv hK hP (ci := 7) (q0 := p_88) rfl hp_88, fun U hU hW => ⟨rfl, by rw [hU], by rw [hU]; exact hP, hE.warm hW, hD.weaken (fun _ _ _ _ => trivial)⟩⟩ rfl rfl hl.1 rfl (lv_room (Nat.le_of_ble_eq_true rfl)) dX7_turn_309 ⟨Nat.le_of_ble_eq_true rfl, Nat.le_of_ble_eq_true rfl⟩) hS (fun q _ h => hFc q h) hFc (fun S89 t H locs ht hvm h hB hz1 hk1 hS => ?_)
                      obtain ⟨hP, hD1, hN1⟩ := hB
                      rw [ht] at hP
                      have hD := hD1.weaken (fun k q _ hq => hFc q.1 hq)
                      have hN := hN1.trans hN
                      refine lv_goto (tgt := 399) hx hb dX7_turn_312 (by decide) ?_
                      exact W.vret hx hb hr (fun t ht hW => ⟨⟨S89, rfl, h, by rw [ht]; exact hP, hD, hN⟩, hS.F ht⟩) hS.2.2 dX7_turn_399
                    · have h := h.2 c_87
                      refine lv_iconst (v := 1) hx hb dX7_turn_302 (by decide) ?_
                      refine lv_goto (tgt := 307) hx hb dX7_turn_303 (by decide) ?_
                      refine lv_iload hx hb dX7_turn_307 (lv_at hl 0 rfl) ?_
                      obtain ⟨p_90, hp_90⟩ := cget_12 cI cZ cP cF q S35
                      have hi_90 : cin S35 12 0 := Or.inl ⟨by decide, rfl⟩
                      have hFc := zm_free hD hS hA
                      refine va_callv (va_runV (As := [.ref (q 22 ((r2 : Int32).toNatClampNeg)), .int (cv S 330 (((cv S 221 ((r2 : Int32).toNatClampNeg) 0) : Int32).toNatClampNeg) ((5 * (cv S 222 ((r2 : Int32).toNatClampNeg) 0)) + 1 : Int32).toNatClampNeg), .int 1, .int (cv S 330 (((cv S 221 ((r2 : Int32).toNatClampNeg) 0) : Int32).toNatClampNeg) ((5 * (cv S 222 ((r2 : Int32).toNatClampNeg) 0)) + 4 : Int32).toNatClampNeg)]) (rest := []) ⟨hx, hb, hml, hown, hts⟩ (zd_X7_guard l D cI cZ cP cF q S35 ((r2 : Int32).toNatClampNeg) (cv S 330 (((cv S 221 ((r2 : Int32).toNatClampNeg) 0) : Int32).toNatClampNeg) ((5 * (cv S 222 ((r2 : Int32).toNatClampNeg) 0)) + 1 : Int32).toNatClampNeg) 1 (cv S 330 (((cv S 221 ((r2 : Int32).toNatClampNeg) 0) : Int32).toNatClampNeg) ((5 * (cv S 222 ((r2 : Int32).toNatClampNeg) 0)) + 4 : Int32).toNatClampNeg) H.size _ h) (cwV 4 hts zg_zd_X7_turn_zd_X7_guard_178 rfl rfl rfl (by decide +kernel) ⟨Nat.le_of_ble_eq_true rfl, Nat.le_of_ble_eq_true rfl⟩) ⟨zCW, va_recv hK hP (ci := 7) (q0 := p_90) rfl hp_90, fun U hU hW => ⟨rfl, by rw [hU], by rw [hU]; exact hP, hE.warm hW, hD.weaken (fun _ _ _ _ => trivial)⟩⟩ rfl rfl hl.1 rfl (lv_room (Nat.le_of_ble_eq_true rfl)) dX7_turn_309 ⟨Nat.le_of_ble_eq_true rfl, Nat.le_of_ble_eq_true rfl⟩) hS (fun q _ h => hFc q h) hFc (fun S91 t H locs ht hvm h hB hz1 hk1 hS => ?_)
                      obtain ⟨hP, hD1, hN1⟩ := hB
                      rw [ht] at hP
                      have hD := hD1.weaken (fun k q _ hq => hFc q.1 hq)
                      have hN := hN1.trans hN
                      refine lv_goto (tgt := 399) hx hb dX7_turn_312 (by decide) ?_
                      exact W.vret hx hb hr (fun t ht hW => ⟨⟨S91, rfl, h, by rw [ht]; exact hP, hD, hN⟩, hS.F ht⟩) hS.2.2 dX7_turn_399
                  · have h := h.2.2.2.2.2.2.2.2.2.2.2.2.2.2.2.2.2.2.2 h_in
                    refine lv_tableIn (off := 205) (tgt := 315) hx hb dX7_turn_110 (by rw [h_in]; decide) (by rw [h_in]; decide) (by rw [h_in]; decide) (by decide) ?_
                    refine lv_aload_n hx hb dX7_turn_315 rfl (lv_at hl 8 rfl) ?_
                    refine lv_aload_n hx hb dX7_turn_316 rfl (lv_at hl 7 rfl) ?_
                    refine lv_iconst (v := 3) hx hb dX7_turn_317 (by decide) ?_
                    refine lv_iload hx hb dX7_turn_318 (lv_at hl 3 rfl) ?_
                    refine lv_iadd hx hb dX7_turn_320 ?_
                    refine lv_aload_n hx hb dX7_turn_321 rfl (lv_at hl 8 rfl) ?_
                    obtain ⟨p_92, hp_92⟩ := cget_12 cI cZ cP cF q S35
                    have hi_92 : cin S35 12 0 := Or.inl ⟨by decide, rfl⟩
                    refine va_get (D := D) (ci := 7) (v := .ref (q 3 0)) (C := RX7) (T := TX7) (N := 10) hx hb hts (fun _ h => List.mem_cons_of_mem _ (List.mem_append_left _ (List.mem_append_left _ (List.mem_append_left _ (List.mem_append_left _ (List.mem_append_left _ (List.mem_append_left _ (List.mem_append_right _ h)))))))) hown hK hP p_92 hp_92 rfl 1 (by decide) (hts (.fieldLink RX7 32 "TemplateForge$Machine" "data" "LTemplateForge$Data;") (List.mem_of_getElem? (i := 46) rfl)) (fun _ h9 => h9) rfl dX7_turn_322 ?_
                    refine lv_iload hx hb dX7_turn_325 (lv_at hl 3 rfl) ?_
                    obtain ⟨p_93, hp_93⟩ := cget_3 cI cZ cP cF q S35
                    have hi_93 : cin S35 3 0 := Or.inl ⟨by decide, rfl⟩
                    refine vp_callSi (va_Run.run (va_runV (As := [.int (cv S 330 (((cv S 221 ((r2 : Int32).toNatClampNeg) 0) : Int32).toNatClampNeg) ((5 * (cv S 222 ((r2 : Int32).toNatClampNeg) 0)) + 1 : Int32).toNatClampNeg)]) (rest := [.int (3 + (cv S 330 (((cv S 221 ((r2 : Int32).toNatClampNeg) 0) : Int32).toNatClampNeg) ((5 * (cv S 222 ((r2 : Int32).toNatClampNeg) 0)) + 1 : Int32).toNatClampNeg)), .ref (q 22 ((r2 : Int32).toNatClampNeg)), .ref (q 12 0)]) ⟨hx, hb, hml, hown, hts⟩ (zd_X2_valueOf l D cI cZ cP cF q S35 (cv S 330 (((cv S 221 ((r2 : Int32).toNatClampNeg) 0) : Int32).toNatClampNeg) ((5 * (cv S 222 ((r2 : Int32).toNatClampNeg) 0)) + 1 : Int32).toNatClampNeg)  _ h) (cwV 1 hts zg_zd_X7_turn_zd_X2_valueOf_182 rfl rfl rfl (by decide +kernel) ⟨Nat.le_of_ble_eq_true rfl, Nat.le_of_ble_eq_true rfl⟩) ⟨zCR, va_recv hK hP (ci := 2) (q0 := p_93) rfl hp_93, fun U hU hW => ⟨rfl, by rw [hU]; exact hP, hE.warm hW⟩⟩ rfl rfl hl.1 rfl (lv_room (Nat.le_of_ble_eq_true rfl)) dX7_turn_327 ⟨Nat.le_of_ble_eq_true rfl, Nat.le_of_ble_eq_true rfl⟩)) (fun r94 h => ?_)
                    refine lv_iload hx hb dX7_turn_330 (lv_at hl 2 rfl) ?_
                    refine lv_icmp_ne (tgt := 339) hx hb dX7_turn_332 (by decide) (fun c_95 => ?_) (fun c_95 => ?_)
                    · have h := h.1 c_95
                      refine lv_iconst (v := 0) hx hb dX7_turn_339 (by decide) ?_
                      refine lv_iload hx hb dX7_turn_340 (lv_at hl 0 rfl) ?_
                      obtain ⟨p_96, hp_96⟩ := cget_12 cI cZ cP cF q S35
                      have hi_96 : cin S35 12 0 := Or.inl ⟨by decide, rfl⟩
                      have hFc := zm_free hD hS hA
                      refine va_callv (va_runV (As := [.ref (q 22 ((r2 : Int32).toNatClampNeg)), .int (3 + (cv S 330 (((cv S 221 ((r2 : Int32).toNatClampNeg) 0) : Int32).toNatClampNeg) ((5 * (cv S 222 ((r2 : Int32).toNatClampNeg) 0)) + 1 : Int32).toNatClampNeg)), .int 0, .int (cv S 330 (((cv S 221 ((r2 : Int32).toNatClampNeg) 0) : Int32).toNatClampNeg) ((5 * (cv S 222 ((r2 : Int32).toNatClampNeg) 0)) + 4 : Int32).toNatClampNeg)]) (rest := []) ⟨hx, hb, hml, hown, hts⟩ (zd_X7_guard l D cI cZ cP cF q S35 ((r2 : Int32).toNatClampNeg) (3 + (cv S 330 (((cv S 221 ((r2 : Int32).toNatClampNeg) 0) : Int32).toNatClampNeg) ((5 * (cv S 222 ((r2 : Int32).toNatClampNeg) 0)) + 1 : Int32).toNatClampNeg)) 0 (cv S 330 (((cv S 221 ((r2 : Int32).toNatClampNeg) 0) : Int32).toNatClampNeg) ((5 * (cv S 222 ((r2 : Int32).toNatClampNeg) 0)) + 4 : Int32).toNatClampNeg) H.size _ h) (cwV 4 hts zg_zd_X7_turn_zd_X7_guard_178 rfl rfl rfl (by decide +kernel) ⟨Nat.le_of_ble_eq_true rfl, Nat.le_of_ble_eq_true rfl⟩) ⟨zCW, va_recv hK hP (ci := 7) (q0 := p_96) rfl hp_96, fun U hU hW => ⟨rfl, by rw [hU], by rw [hU]; exact hP, hE.warm hW, hD.weaken (fun _ _ _ _ => trivial)⟩⟩ rfl rfl hl.1 rfl (lv_room (Nat.le_of_ble_eq_true rfl)) dX7_turn_342 ⟨Nat.le_of_ble_eq_true rfl, Nat.le_of_ble_eq_true rfl⟩) hS (fun q _ h => hFc q h) hFc (fun S97 t H locs ht hvm h hB hz1 hk1 hS => ?_)
                      obtain ⟨hP, hD1, hN1⟩ := hB
                      rw [ht] at hP
                      have hD := hD1.weaken (fun k q _ hq => hFc q.1 hq)
                      have hN := hN1.trans hN
                      refine lv_goto (tgt := 399) hx hb dX7_turn_345 (by decide) ?_
                      exact W.vret hx hb hr (fun t ht hW => ⟨⟨S97, rfl, h, by rw [ht]; exact hP, hD, hN⟩, hS.F ht⟩) hS.2.2 dX7_turn_399
                    · have h := h.2 c_95
                      refine lv_iconst (v := 1) hx hb dX7_turn_335 (by decide) ?_
                      refine lv_goto (tgt := 340) hx hb dX7_turn_336 (by decide) ?_
                      refine lv_iload hx hb dX7_turn_340 (lv_at hl 0 rfl) ?_
                      obtain ⟨p_98, hp_98⟩ := cget_12 cI cZ cP cF q S35
                      have hi_98 : cin S35 12 0 := Or.inl ⟨by decide, rfl⟩
                      have hFc := zm_free hD hS hA
                      refine va_callv (va_runV (As := [.ref (q 22 ((r2 : Int32).toNatClampNeg)), .int (3 + (cv S 330 (((cv S 221 ((r2 : Int32).toNatClampNeg) 0) : Int32).toNatClampNeg) ((5 * (cv S 222 ((r2 : Int32).toNatClampNeg) 0)) + 1 : Int32).toNatClampNeg)), .int 1, .int (cv S 330 (((cv S 221 ((r2 : Int32).toNatClampNeg) 0) : Int32).toNatClampNeg) ((5 * (cv S 222 ((r2 : Int32).toNatClampNeg) 0)) + 4 : Int32).toNatClampNeg)]) (rest := []) ⟨hx, hb, hml, hown, hts⟩ (zd_X7_guard l D cI cZ cP cF q S35 ((r2 : Int32).toNatClampNeg) (3 + (cv S 330 (((cv S 221 ((r2 : Int32).toNatClampNeg) 0) : Int32).toNatClampNeg) ((5 * (cv S 222 ((r2 : Int32).toNatClampNeg) 0)) + 1 : Int32).toNatClampNeg)) 1 (cv S 330 (((cv S 221 ((r2 : Int32).toNatClampNeg) 0) : Int32).toNatClampNeg) ((5 * (cv S 222 ((r2 : Int32).toNatClampNeg) 0)) + 4 : Int32).toNatClampNeg) H.size _ h) (cwV 4 hts zg_zd_X7_turn_zd_X7_guard_178 rfl rfl rfl (by decide +kernel) ⟨Nat.le_of_ble_eq_true rfl, Nat.le_of_ble_eq_true rfl⟩) ⟨zCW, va_recv hK hP (ci := 7) (q0 := p_98) rfl hp_98, fun U hU hW => ⟨rfl, by rw [hU], by rw [hU]; exact hP, hE.warm hW, hD.weaken (fun _ _ _ _ => trivial)⟩⟩ rfl rfl hl.1 rfl (lv_room (Nat.le_of_ble_eq_true rfl)) dX7_turn_342 ⟨Nat.le_of_ble_eq_true rfl, Nat.le_of_ble_eq_true rfl⟩) hS (fun q _ h => hFc q h) hFc (fun S99 t H locs ht hvm h hB hz1 hk1 hS => ?_)
                      obtain ⟨hP, hD1, hN1⟩ := hB
                      rw [ht] at hP
                      have hD := hD1.weaken (fun k q _ hq => hFc q.1 hq)
                      have hN := hN1.trans hN
                      refine lv_goto (tgt := 399) hx hb dX7_turn_345 (by decide) ?_
                      exact W.vret hx hb hr (fun t ht hW => ⟨⟨S99, rfl, h, by rw [ht]; exact hP, hD, hN⟩, hS.F ht⟩) hS.2.2 dX7_turn_399
              · have h := h.2 c_23
                refine lv_aload_n hx hb dX7_turn_44 rfl (lv_at hl 1 rfl) ?_
                refine lv_iconst (v := 3) hx hb dX7_turn_45 (by decide) ?_
                obtain ⟨p_100, hp_100⟩ := cget_12 cI cZ cP cF q S
                have hi_100 : cin S 12 0 := Or.inl ⟨by decide, rfl⟩
                have hD0_100 := hD
                refine va_put (D := D) (ci := 7) (v := .int 3) (ty := .int) (C := RX7) (T := TX7) (N := 10) hx hb hts (fun _ h => List.mem_cons_of_mem _ (List.mem_append_left _ (List.mem_append_left _ (List.mem_append_left _ (List.mem_append_left _ (List.mem_append_left _ (List.mem_append_left _ (List.mem_append_right _ h)))))))) tyX7 tyX7_ok nmX7 hown hK hP hD hS p_100 hp_100 rfl 7 (by decide) (hts (.fieldLink RX7 53 "TemplateForge$Machine" "ending" "I") (List.mem_of_getElem? (i := 8) rfl)) (fun _ h9 => h9) rfl (by decide +kernel) rfl rfl (Nat.le_of_ble_eq_true rfl) dX7_turn_46 (fun H locs hP hD hS => ?_)
                obtain ⟨S101, eS101⟩ : ∃ z, z = cs S 127 0 (fun _ => 3) := ⟨_, rfl⟩
                have hP : va_P D vwCl (cW cI cZ cP cF q S101) H := by rw [eS101, ← cW_put (k := 127) (κ := 12) (i := 0) (g := (fun _ => 3)) rfl hD0_100 hp_100 hi_100, cput_127]; exact hP
                have hD : va_D A (cW cI cZ cP cF q S101) := by rw [eS101, ← cW_put (k := 127) (κ := 12) (i := 0) (g := (fun _ => 3)) rfl hD0_100 hp_100 hi_100, cput_127]; exact hD
                have hN : S101.2 = S.2 := by rw [eS101]; exact hN
                have h := h S101 eS101
                exact W.vret hx hb hr (fun t ht hW => ⟨⟨S101, rfl, h, by rw [ht]; exact hP, hD, hN⟩, hS.F ht⟩) hS.2.2 dX7_turn_49
  exact key _ _ hP va_S.rf

def wl_X7_begin_121 (K_151 : CST → Prop) (Post : CST → Prop) : Nat → CST → Nat → Nat → Int32 → Prop
  | 0, _, _, _, _ => False
  | n_121 + 1, S_121, y121_1, y121_2, x121_3 => cin S_121 24 y121_1 ∧ ((((cv S_121 241 y121_1 0) ≤ x121_3) → ((K_151 S_121 ))) ∧ ((¬ ((cv S_121 241 y121_1 0) ≤ x121_3)) → (((3 ≤ x121_3) → ((K_151 S_121 ))) ∧ ((¬ (3 ≤ x121_3)) → (vp_in x121_3 3 ∧ (cin S_121 22 y121_2 ∧ (wp_X4_put S_121 y121_2 x121_3 (cv S_121 140 0 (x121_3 : Int32).toNatClampNeg) (fun S14 => wl_X7_begin_121 K_151 Post n_121 S14 y121_1 y121_2 (x121_3 + 1)))))))))
def wj_X7_begin_102 (S_102 : CST) (y102_1 : Nat) (y102_2 : Nat) (Post : CST → Prop) : Prop :=
  cin S_102 22 y102_2 ∧ (∀ S2 : CST, S2 = cs S_102 222 y102_2 (fun _ => 0) → (cin S2 22 y102_2 ∧ (∀ S5 : CST, S5 = cs S2 223 y102_2 (fun _ => cv S2 129 0 0) → (cin S5 22 y102_2 ∧ (wp_X4_clear S5 y102_2 (fun S7 => ∃ n_121, wl_X7_begin_121 (fun S_151 => Post S_151) Post n_121 S7 y102_1 y102_2 0))))))
def wp_X7_begin (S : CST) (Post : CST → Prop) : Prop :=
  wp_X0_at S (cv S 128 0 0) (fun r18 => ((r18 < 0) → (∀ S21 : CST, S21 = cs S 128 0 (fun _ => (-1)) → (wp_X7_stepOn S21  (fun S23 => ((((cv S23 127 0 0) : Int32) = 4) → (∀ S27 : CST, S27 = cs S23 127 0 (fun _ => 3) → (Post S27))) ∧ ((¬ (((cv S23 127 0 0) : Int32) = 4)) → (Post S23)))))) ∧ ((¬ (r18 < 0)) → (∀ S29 : CST, S29 = cs S 128 0 (fun _ => (-1)) → (wp_X7_stepOn S29  (fun S31 => ((((cv S31 127 0 0) : Int32) = 4) → (((((cv S31 126 0 0) : Int32) < 0) → (∀ S37 : CST, S37 = cs S31 127 0 (fun _ => 3) → (Post S37))) ∧ ((¬ (((cv S31 126 0 0) : Int32) < 0)) → (((((cv S31 126 0 0) : Int32) < 16) → (vp_in (cv S31 126 0 0) 16 ∧ (∀ S45 : CST, S45 = cs S31 126 0 (fun _ => (cv S31 126 0 0) + 1) → (∀ S49 : CST, S49 = cs S45 202 0 (fun _ => (cv S45 202 0 0) + 1) → (cin S49 22 ((cv S31 126 0 0 : Int32).toNatClampNeg) ∧ (∀ S51 : CST, S51 = cs S49 220 ((cv S31 126 0 0 : Int32).toNatClampNeg) (fun _ => r18) → (cin S51 24 ((r18 : Int32).toNatClampNeg) ∧ (((cv S51 249 ((r18 : Int32).toNatClampNeg) 0) < 0) → (cin S51 22 ((cv S31 126 0 0 : Int32).toNatClampNeg) ∧ (∀ S55 : CST, S55 = cs S51 221 ((cv S31 126 0 0 : Int32).toNatClampNeg) (fun _ => (-1)) → (wj_X7_begin_102 S55 ((r18 : Int32).toNatClampNeg) ((cv S31 126 0 0 : Int32).toNatClampNeg) Post)))) ∧ ((¬ ((cv S51 249 ((r18 : Int32).toNatClampNeg) 0) < 0)) → (cin S51 22 ((cv S31 126 0 0 : Int32).toNatClampNeg) ∧ (∀ S57 : CST, S57 = cs S51 221 ((cv S31 126 0 0 : Int32).toNatClampNeg) (fun _ => (cv S51 249 ((r18 : Int32).toNatClampNeg) 0)) → (wj_X7_begin_102 S57 ((r18 : Int32).toNatClampNeg) ((cv S31 126 0 0 : Int32).toNatClampNeg) Post))))))))))) ∧ ((¬ (((cv S31 126 0 0) : Int32) < 16)) → (∀ S59 : CST, S59 = cs S31 127 0 (fun _ => 3) → (Post S59))))))) ∧ ((¬ (((cv S31 127 0 0) : Int32) = 4)) → (Post S31)))))))
def zw_zd_X7_begin_w0 : List Cond := [.fieldLink RX7 97 "TemplateForge$Frame" "place" "I", .fieldLink RX7 59 "TemplateForge$Machine" "into" "I", .fieldLink RX7 100 "TemplateForge$Frame" "into" "I", .code yX4_clear cX4_clear 1 none, .fieldLink RX4 9 "TemplateForge$Frame" "registers" "[I", .code yJ7_fill_53178 cJ7_fill_53178 4 none, .methodLink RX4 15 yJ7_fill_53178, .static yJ7_fill_53178, .initialized RJ7, .methodLink RX7 101 yX4_clear, .instanceMethod yX4_clear, .selects RX4 yX4_clear yX4_clear, .initialized RX4, .fieldLink RX7 104 "TemplateForge$Program" "args" "I", .fieldLink RX7 24 "TemplateForge$Machine" "handed" "[I", .code yX4_put cX4_put 3 none]
def zw_zd_X7_begin_w1 : List Cond := [.methodLink RX7 107 yX4_put, .instanceMethod yX4_put, .selects RX4 yX4_put yX4_put, .fieldLink RX7 28 "TemplateForge$Machine" "book" "LTemplateForge$Book;", .fieldLink RX7 56 "TemplateForge$Machine" "called" "I", .code yX0_at cX0_at 2 (some (.object "TemplateForge$Program")), .fieldLink RX0 17 "TemplateForge$Book" "told" "I", .fieldLink RX0 11 "TemplateForge$Book" "programs" "[LTemplateForge$Program;", .methodLink RX7 72 yX0_at, .instanceMethod yX0_at, .selects RX0 yX0_at yX0_at, .initialized RX0, .code yX7_stepOn cX7_stepOn 1 none, .fieldLink RX7 12 "TemplateForge$Machine" "tally" "LTemplateForge$Tally;", .fieldLink RX7 150 "TemplateForge$Tally" "steps" "I", .fieldLink RX7 53 "TemplateForge$Machine" "ending" "I"]
def zw_zd_X7_begin_w2 : List Cond := [.methodLink RX7 78 yX7_stepOn, .instanceMethod yX7_stepOn, .selects RX7 yX7_stepOn yX7_stepOn, .initialized RX7, .fieldLink RX7 49 "TemplateForge$Machine" "open" "I", .fieldLink RX7 20 "TemplateForge$Machine" "frames" "[LTemplateForge$Frame;", .fieldLink RX7 81 "TemplateForge$Tally" "calls" "I", .fieldLink RX7 84 "TemplateForge$Frame" "program" "LTemplateForge$Program;", .fieldLink RX7 88 "TemplateForge$Program" "plain" "LTemplateForge$Code;", .fieldLink RX7 94 "TemplateForge$Frame" "code" "LTemplateForge$Code;"]
def zw_zd_X7_begin : List Cond := .code yX7_begin cX7_begin 4 none :: ((zw_zd_X7_begin_w0 ++ (zw_zd_X7_begin_w1 ++ (zw_zd_X7_begin_w2))) ++ wsX40 ++ wsX70 ++ wsX80 ++ wsX00 ++ wsX100)
set_option maxRecDepth 100000 in
theorem zg_zd_X7_begin_zd_X4_clear_101_a : GoodIn zw_zd_X7_begin [.methodLink RX7 101 yX4_clear, .instanceMethod yX4_clear, .selects RX4 yX4_clear yX4_clear, .initialized RX4] := goodIn_r _ [10, 11, 12, 13] rfl (by decide +kernel)
set_option maxRecDepth 100000 in
theorem zg_zd_X7_begin_zd_X4_clear_101_c : GoodIn zw_zd_X7_begin [.code yX4_clear cX4_clear 1 none] := goodIn_r _ [4] rfl (by decide +kernel)
set_option maxRecDepth 100000 in
theorem zg_zd_X7_begin_zd_X4_clear_101_0 : GoodIn zw_zd_X7_begin zw_zd_X4_clear_w0 := goodIn_r _ [5, 6, 7, 8, 9] rfl (by decide +kernel)
theorem zg_zd_X7_begin_zd_X4_clear_101 : GoodIn zw_zd_X7_begin (wsV RX7 101 RX4 yX4_clear zw_zd_X4_clear) := goodIn_app zg_zd_X7_begin_zd_X4_clear_101_a (goodIn_ca (a := (zw_zd_X4_clear_w0)) (show GoodIn zw_zd_X7_begin (.code yX4_clear cX4_clear 1 none :: (zw_zd_X4_clear_w0)) from goodIn_app zg_zd_X7_begin_zd_X4_clear_101_c (zg_zd_X7_begin_zd_X4_clear_101_0)) (fun w h => ⟨(fun _ h => List.mem_cons_of_mem _ (List.mem_append_left _ (List.mem_append_left _ (List.mem_append_left _ (List.mem_append_left _ (List.mem_append_right _ h)))))) w h, good_of_word (List.all_eq_true.mp zgw_X4 w h)⟩))
set_option maxRecDepth 100000 in
theorem zg_zd_X7_begin_zd_X4_put_107_a : GoodIn zw_zd_X7_begin [.methodLink RX7 107 yX4_put, .instanceMethod yX4_put, .selects RX4 yX4_put yX4_put, .initialized RX4] := goodIn_r _ [17, 18, 19, 13] rfl (by decide +kernel)
set_option maxRecDepth 100000 in
theorem zg_zd_X7_begin_zd_X4_put_107_c : GoodIn zw_zd_X7_begin [.code yX4_put cX4_put 3 none] := goodIn_r _ [16] rfl (by decide +kernel)
set_option maxRecDepth 100000 in
theorem zg_zd_X7_begin_zd_X4_put_107_0 : GoodIn zw_zd_X7_begin zw_zd_X4_put_w0 := goodIn_r _ [5] rfl (by decide +kernel)
theorem zg_zd_X7_begin_zd_X4_put_107 : GoodIn zw_zd_X7_begin (wsV RX7 107 RX4 yX4_put zw_zd_X4_put) := goodIn_app zg_zd_X7_begin_zd_X4_put_107_a (goodIn_ca (a := (zw_zd_X4_put_w0)) (show GoodIn zw_zd_X7_begin (.code yX4_put cX4_put 3 none :: (zw_zd_X4_put_w0)) from goodIn_app zg_zd_X7_begin_zd_X4_put_107_c (zg_zd_X7_begin_zd_X4_put_107_0)) (fun w h => ⟨(fun _ h => List.mem_cons_of_mem _ (List.mem_append_left _ (List.mem_append_left _ (List.mem_append_left _ (List.mem_append_left _ (List.mem_append_right _ h)))))) w h, good_of_word (List.all_eq_true.mp zgw_X4 w h)⟩))
set_option maxRecDepth 100000 in
theorem zg_zd_X7_begin_zd_X0_at_72_a : GoodIn zw_zd_X7_begin [.methodLink RX7 72 yX0_at, .instanceMethod yX0_at, .selects RX0 yX0_at yX0_at, .initialized RX0] := goodIn_r _ [25, 26, 27, 28] rfl (by decide +kernel)
set_option maxRecDepth 100000 in
theorem zg_zd_X7_begin_zd_X0_at_72_c : GoodIn zw_zd_X7_begin [.code yX0_at cX0_at 2 (some (.object "TemplateForge$Program"))] := goodIn_r _ [22] rfl (by decide +kernel)
set_option maxRecDepth 100000 in
theorem zg_zd_X7_begin_zd_X0_at_72_0 : GoodIn zw_zd_X7_begin zw_zd_X0_at_w0 := goodIn_r _ [23, 24] rfl (by decide +kernel)
theorem zg_zd_X7_begin_zd_X0_at_72 : GoodIn zw_zd_X7_begin (wsV RX7 72 RX0 yX0_at zw_zd_X0_at) := goodIn_app zg_zd_X7_begin_zd_X0_at_72_a (goodIn_ca (a := (zw_zd_X0_at_w0)) (show GoodIn zw_zd_X7_begin (.code yX0_at cX0_at 2 (some (.object "TemplateForge$Program")) :: (zw_zd_X0_at_w0)) from goodIn_app zg_zd_X7_begin_zd_X0_at_72_c (zg_zd_X7_begin_zd_X0_at_72_0)) (fun w h => ⟨(fun _ h => List.mem_cons_of_mem _ (List.mem_append_left _ (List.mem_append_right _ h))) w h, good_of_word (List.all_eq_true.mp zgw_X0 w h)⟩))
set_option maxRecDepth 100000 in
theorem zg_zd_X7_begin_zd_X7_stepOn_78_a : GoodIn zw_zd_X7_begin [.methodLink RX7 78 yX7_stepOn, .instanceMethod yX7_stepOn, .selects RX7 yX7_stepOn yX7_stepOn, .initialized RX7] := goodIn_r _ [33, 34, 35, 36] rfl (by decide +kernel)
set_option maxRecDepth 100000 in
theorem zg_zd_X7_begin_zd_X7_stepOn_78_c : GoodIn zw_zd_X7_begin [.code yX7_stepOn cX7_stepOn 1 none] := goodIn_r _ [29] rfl (by decide +kernel)
set_option maxRecDepth 100000 in
theorem zg_zd_X7_begin_zd_X7_stepOn_78_0 : GoodIn zw_zd_X7_begin zw_zd_X7_stepOn_w0 := goodIn_r _ [30, 31, 32] rfl (by decide +kernel)
theorem zg_zd_X7_begin_zd_X7_stepOn_78 : GoodIn zw_zd_X7_begin (wsV RX7 78 RX7 yX7_stepOn zw_zd_X7_stepOn) := goodIn_app zg_zd_X7_begin_zd_X7_stepOn_78_a (goodIn_ca (a := ((zw_zd_X7_stepOn_w0) ++ wsX70)) (goodIn_ca (a := (zw_zd_X7_stepOn_w0)) (show GoodIn zw_zd_X7_begin (.code yX7_stepOn cX7_stepOn 1 none :: (zw_zd_X7_stepOn_w0)) from goodIn_app zg_zd_X7_begin_zd_X7_stepOn_78_c (zg_zd_X7_begin_zd_X7_stepOn_78_0)) (fun w h => ⟨(fun _ h => List.mem_cons_of_mem _ (List.mem_append_left _ (List.mem_append_left _ (List.mem_append_left _ (List.mem_append_right _ h))))) w h, good_of_word (List.all_eq_true.mp zgw_X7 w h)⟩)) (fun w h => ⟨(fun _ h => List.mem_cons_of_mem _ (List.mem_append_right _ h)) w h, good_of_word (List.all_eq_true.mp zgw_X10 w h)⟩))
set_option maxHeartbeats 16000000 in
set_option maxRecDepth 100000 in
theorem zd_X7_begin (l : Launch) (D : va_G) (cI cZ cP cF : Nat) (q : Nat → Nat → Nat) (S : CST) (sz : Nat) (Post : CST → Prop) (h : wp_X7_begin S Post) : Met l yX7_begin zw_zd_X7_begin ({ frames := 2, cells := 0, slots := 0, locals := 43 }) (va_Pc [.ref (q 12 0)] (fun U => U.heap.size = sz ∧ va_P D vwCl (cW cI cZ cP cF q S) U.heap ∧ zF D cI cZ cP cF U ∧ va_D (fun _ => True) (cW cI cZ cP cF q S))) (va_Qv (fun S' => Post S') (fun (S' : CST) t => va_P D vwCl (cW cI cZ cP cF q S') t.heap ∧ va_D (va_A (cW cI cZ cP cF q S) sz) (cW cI cZ cP cF q S') ∧ S'.2 = S.2) (va_A (cW cI cZ cP cF q S) sz)) 0 0 (va_A (cW cI cZ cP cF q S) sz) := by
  unfold wp_X7_begin at h
  refine Met.ofW (cc := cX7_begin) (maxL := 4) (ret := none) (by decide) rfl ?_
  intro p e s m args below meth c s₁ B hml hv
  obtain ⟨rfl, hsz, hP, hE, hD0⟩ := hv
  have hx := B.exec
  have hb := B.bytes
  have hr := B.returns
  have hts := atoms_spec (ws := zw_zd_X7_begin) B.pre
  have hown : s.vm.findClass RX7 = some m.cls := findClass_of_methodNamed B.named
  have hlocks := B.notSynchronized
  have hK := hE.k
  subst hsz
  have hD := hD0.self (sz := s.heap.size)
  generalize hAe : va_A (cW cI cZ cP cF q S) s.heap.size = A at hD ⊢
  have hA : ∀ q : Nat, s.heap.size ≤ q → A q := fun q h => by rw [← hAe]; exact Or.inr h
  have hN : S.2 = S.2 := rfl
  have hl := lv_entry ([.ref (q 12 0)]) (n := 4) (Nat.le_of_ble_eq_true rfl)
  rw [lg_entry_eq]
  generalize (lg_sl ([.ref (q 12 0)]) ++ List.replicate (4 - (lg_sl ([.ref (q 12 0)])).length) Slot.unset).toArray = ls at hl ⊢
  have hl : lv_has ls 4 [(0, .ref (q 12 0))] := hl
  have key : ∀ (H : Heap) (locs : List Loc), va_P D vwCl (cW cI cZ cP cF q S) H → va_S A s.heap H locs → W p l e (headSpec zw_zd_X7_begin ({ frames := 2, cells := 0, slots := 0, locals := 43 })).room s m ([.ref (q 12 0)] : List Value).toArray below meth c H locs 0 0 (MQ below (va_Qv (fun S' => Post S') (fun (S' : CST) t => va_P D vwCl (cW cI cZ cP cF q S') t.heap ∧ va_D A (cW cI cZ cP cF q S') ∧ S'.2 = S.2) A) ([.ref (q 12 0)] : List Value).toArray s 0 0 A) (F0 m 0 ls []) := by
    intro H locs hP hS
    have J_102 : ∀ (S_102 : CST) (y102_1 : Nat) (y102_2 : Nat) (H : Heap) (locs : List Loc) (ls : Array Slot), wj_X7_begin_102 S_102 y102_1 y102_2 Post → va_P D vwCl (cW cI cZ cP cF q S_102) H → va_D A (cW cI cZ cP cF q S_102) → va_S A s.heap H locs → S_102.2 = S.2 → lv_has ls 4 [(0, .ref (q 12 0)), (1, .ref (q 24 y102_1)), (2, .ref (q 22 y102_2))] → W p l e (headSpec zw_zd_X7_begin ({ frames := 2, cells := 0, slots := 0, locals := 43 })).room s m ([.ref (q 12 0)] : List Value).toArray below meth c H locs 0 0 (MQ below (va_Qv (fun S' => Post S') (fun (S' : CST) t => va_P D vwCl (cW cI cZ cP cF q S') t.heap ∧ va_D A (cW cI cZ cP cF q S') ∧ S'.2 = S.2) A) ([.ref (q 12 0)] : List Value).toArray s 0 0 A) (F0 m 102 ls []) := by
      intro S_102 y102_1 y102_2 H locs ls h hP hD hS hN hl
      unfold wj_X7_begin_102 at h
      refine lv_aload_n hx hb dX7_begin_102 rfl (lv_at hl 2 rfl) ?_
      refine lv_iconst (v := 0) hx hb dX7_begin_103 (by decide) ?_
      have hi_1 := h.1
      have h := h.2
      obtain ⟨p_1, hp_1⟩ := cget_22 cI cZ cP cF q S_102 hi_1
      have hD0_1 := hD
      refine va_put (D := D) (ci := 4) (v := .int 0) (ty := .int) (C := RX4) (T := TX4) (N := 5) hx hb hts (fun _ h => List.mem_cons_of_mem _ (List.mem_append_left _ (List.mem_append_left _ (List.mem_append_left _ (List.mem_append_left _ (List.mem_append_right _ h)))))) tyX4 tyX4_ok nmX4 hown hK hP hD hS p_1 hp_1 rfl 2 (by decide) (hts (.fieldLink RX7 97 "TemplateForge$Frame" "place" "I") (List.mem_of_getElem? (i := 1) rfl)) (fun _ h9 => h9) rfl (by decide +kernel) rfl rfl (Nat.le_of_ble_eq_true rfl) dX7_begin_104 (fun H locs hP hD hS => ?_)
      obtain ⟨S2, eS2⟩ : ∃ z, z = cs S_102 222 y102_2 (fun _ => 0) := ⟨_, rfl⟩
      have hP : va_P D vwCl (cW cI cZ cP cF q S2) H := by rw [eS2, ← cW_put (k := 222) (κ := 22) (i := y102_2) (g := (fun _ => 0)) rfl hD0_1 hp_1 hi_1, cput_222]; exact hP
      have hD : va_D A (cW cI cZ cP cF q S2) := by rw [eS2, ← cW_put (k := 222) (κ := 22) (i := y102_2) (g := (fun _ => 0)) rfl hD0_1 hp_1 hi_1, cput_222]; exact hD
      have hN : S2.2 = S.2 := by rw [eS2]; exact hN
      have h := h S2 eS2
      refine lv_aload_n hx hb dX7_begin_107 rfl (lv_at hl 2 rfl) ?_
      refine lv_aload_n hx hb dX7_begin_108 rfl (lv_at hl 0 rfl) ?_
      obtain ⟨p_3, hp_3⟩ := cget_12 cI cZ cP cF q S2
      have hi_3 : cin S2 12 0 := Or.inl ⟨by decide, rfl⟩
      refine va_get (D := D) (ci := 7) (v := .int (cv S2 129 0 0)) (C := RX7) (T := TX7) (N := 10) hx hb hts (fun _ h => List.mem_cons_of_mem _ (List.mem_append_left _ (List.mem_append_left _ (List.mem_append_left _ (List.mem_append_right _ h))))) hown hK hP p_3 hp_3 rfl 9 (by decide) (hts (.fieldLink RX7 59 "TemplateForge$Machine" "into" "I") (List.mem_of_getElem? (i := 2) rfl)) (fun _ h9 => h9) rfl dX7_begin_109 ?_
      have hi_4 := h.1
      have h := h.2
      obtain ⟨p_4, hp_4⟩ := cget_22 cI cZ cP cF q S2 hi_4
      have hD0_4 := hD
      refine va_put (D := D) (ci := 4) (v := .int (cv S2 129 0 0)) (ty := .int) (C := RX4) (T := TX4) (N := 5) hx hb hts (fun _ h => List.mem_cons_of_mem _ (List.mem_append_left _ (List.mem_append_left _ (List.mem_append_left _ (List.mem_append_left _ (List.mem_append_right _ h)))))) tyX4 tyX4_ok nmX4 hown hK hP hD hS p_4 hp_4 rfl 3 (by decide) (hts (.fieldLink RX7 100 "TemplateForge$Frame" "into" "I") (List.mem_of_getElem? (i := 3) rfl)) (fun _ h9 => h9) rfl (by decide +kernel) rfl rfl (Nat.le_of_ble_eq_true rfl) dX7_begin_112 (fun H locs hP hD hS => ?_)
      obtain ⟨S5, eS5⟩ : ∃ z, z = cs S2 223 y102_2 (fun _ => cv S2 129 0 0) := ⟨_, rfl⟩
      have hP : va_P D vwCl (cW cI cZ cP cF q S5) H := by rw [eS5, ← cW_put (k := 223) (κ := 22) (i := y102_2) (g := (fun _ => cv S2 129 0 0)) rfl hD0_4 hp_4 hi_4, cput_223]; exact hP
      have hD : va_D A (cW cI cZ cP cF q S5) := by rw [eS5, ← cW_put (k := 223) (κ := 22) (i := y102_2) (g := (fun _ => cv S2 129 0 0)) rfl hD0_4 hp_4 hi_4, cput_223]; exact hD
      have hN : S5.2 = S.2 := by rw [eS5]; exact hN
      have h := h S5 eS5
      refine lv_aload_n hx hb dX7_begin_115 rfl (lv_at hl 2 rfl) ?_
      have hi_6 := h.1
      have h := h.2
      obtain ⟨p_6, hp_6⟩ := cget_22 cI cZ cP cF q S5 hi_6
      have hFc := zm_free hD hS hA
      refine va_callv (va_runV (As := []) (rest := []) ⟨hx, hb, hml, hown, hts⟩ (zd_X4_clear l D cI cZ cP cF q S5 y102_2 H.size _ h) (cwV 0 hts zg_zd_X7_begin_zd_X4_clear_101 rfl rfl rfl (by decide +kernel) ⟨Nat.le_of_ble_eq_true rfl, Nat.le_of_ble_eq_true rfl⟩) ⟨zCW, va_recv hK hP (ci := 4) (q0 := p_6) rfl hp_6, fun U hU hW => ⟨rfl, by rw [hU], by rw [hU]; exact hP, hE.warm hW, hD.weaken (fun _ _ _ _ => trivial)⟩⟩ rfl rfl hl.1 rfl (lv_room (Nat.le_of_ble_eq_true rfl)) dX7_begin_116 ⟨Nat.le_of_ble_eq_true rfl, Nat.le_of_ble_eq_true rfl⟩) hS (fun q _ h => hFc q h) hFc (fun S7 t H locs ht hvm h hB hz1 hk1 hS => ?_)
      obtain ⟨hP, hD1, hN1⟩ := hB
      rw [ht] at hP
      have hD := hD1.weaken (fun k q _ hq => hFc q.1 hq)
      have hN := hN1.trans hN
      refine lv_iconst (v := 0) hx hb dX7_begin_119 (by decide) ?_
      refine lv_istore_n (lv' := [(3, .int 0), (0, .ref (q 12 0)), (1, .ref (q 24 y102_1)), (2, .ref (q 22 y102_2))]) hx hb dX7_begin_120 rfl hl (by decide) rfl (fun ls hl => ?_)
      have EX_121_151 : ∀ (S_151 : CST) (H : Heap) (locs : List Loc) (ls : Array Slot), (Post S_151) → va_P D vwCl (cW cI cZ cP cF q S_151) H → va_D A (cW cI cZ cP cF q S_151) → va_S A s.heap H locs → S_151.2 = S.2 → lv_has ls 4 [] → W p l e (headSpec zw_zd_X7_begin ({ frames := 2, cells := 0, slots := 0, locals := 43 })).room s m ([.ref (q 12 0)] : List Value).toArray below meth c H locs 0 0 (MQ below (va_Qv (fun S' => Post S') (fun (S' : CST) t => va_P D vwCl (cW cI cZ cP cF q S') t.heap ∧ va_D A (cW cI cZ cP cF q S') ∧ S'.2 = S.2) A) ([.ref (q 12 0)] : List Value).toArray s 0 0 A) (F0 m 151 ls []) := by
        intro S_151  H locs ls h hP hD hS hN hl
        exact W.vret hx hb hr (fun t ht hW => ⟨⟨S_151, rfl, h, by rw [ht]; exact hP, hD, hN⟩, hS.F ht⟩) hS.2.2 dX7_begin_151
      have LP_121 : ∀ (n_121 : Nat), ∀ (S_121 : CST) (y121_1 : Nat) (y121_2 : Nat) (x121_3 : Int32) (H : Heap) (locs : List Loc) (ls : Array Slot), wl_X7_begin_121 (fun S_151 => Post S_151) Post n_121 S_121 y121_1 y121_2 x121_3 → va_P D vwCl (cW cI cZ cP cF q S_121) H → va_D A (cW cI cZ cP cF q S_121) → va_S A s.heap H locs → S_121.2 = S.2 → lv_has ls 4 [(0, .ref (q 12 0)), (1, .ref (q 24 y121_1)), (2, .ref (q 22 y121_2)), (3, .int x121_3)] → W p l e (headSpec zw_zd_X7_begin ({ frames := 2, cells := 0, slots := 0, locals := 43 })).room s m ([.ref (q 12 0)] : List Value).toArray below meth c H locs 0 0 (MQ below (va_Qv (fun S' => Post S') (fun (S' : CST) t => va_P D vwCl (cW cI cZ cP cF q S') t.heap ∧ va_D A (cW cI cZ cP cF q S') ∧ S'.2 = S.2) A) ([.ref (q 12 0)] : List Value).toArray s 0 0 A) (F0 m 121 ls []) := by
        intro n_121
        induction n_121 with
        | zero =>
          intro S_121 y121_1 y121_2 x121_3 H locs ls h hP hD hS hN hl
          exact False.elim h
        | succ n_121 ih_121 =>
          intro S_121 y121_1 y121_2 x121_3 H locs ls h hP hD hS hN hl
          unfold wl_X7_begin_121 at h
          refine lv_iload_n hx hb dX7_begin_121 rfl (lv_at hl 3 rfl) ?_
          refine lv_aload_n hx hb dX7_begin_122 rfl (lv_at hl 1 rfl) ?_
          have hi_8 := h.1
          have h := h.2
          obtain ⟨p_8, hp_8⟩ := cget_24 cI cZ cP cF q S_121 hi_8
          refine va_get (D := D) (ci := 8) (v := .int (cv S_121 241 y121_1 0)) (C := RX8) (T := TX8) (N := 10) hx hb hts (fun _ h => List.mem_cons_of_mem _ (List.mem_append_left _ (List.mem_append_left _ (List.mem_append_right _ h)))) hown hK hP p_8 hp_8 rfl 1 (by decide) (hts (.fieldLink RX7 104 "TemplateForge$Program" "args" "I") (List.mem_of_getElem? (i := 14) rfl)) (fun _ h9 => h9) rfl dX7_begin_123 ?_
          refine lv_icmp_ge (tgt := 151) hx hb dX7_begin_126 (by decide) (fun c_9 => ?_) (fun c_9 => ?_)
          · have h := h.1 c_9
            exact EX_121_151  S_121  H locs _ h hP hD hS hN (lv_sub hl [] rfl)
          · have h := h.2 c_9
            refine lv_iload_n hx hb dX7_begin_129 rfl (lv_at hl 3 rfl) ?_
            refine lv_iconst (v := 3) hx hb dX7_begin_130 (by decide) ?_
            refine lv_icmp_ge (tgt := 151) hx hb dX7_begin_131 (by decide) (fun c_10 => ?_) (fun c_10 => ?_)
            · have h := h.1 c_10
              exact EX_121_151  S_121  H locs _ h hP hD hS hN (lv_sub hl [] rfl)
            · have h := h.2 c_10
              refine lv_aload_n hx hb dX7_begin_134 rfl (lv_at hl 2 rfl) ?_
              refine lv_iload_n hx hb dX7_begin_135 rfl (lv_at hl 3 rfl) ?_
              refine lv_aload_n hx hb dX7_begin_136 rfl (lv_at hl 0 rfl) ?_
              obtain ⟨p_11, hp_11⟩ := cget_12 cI cZ cP cF q S_121
              have hi_11 : cin S_121 12 0 := Or.inl ⟨by decide, rfl⟩
              refine va_get (D := D) (ci := 7) (v := .ref (q 14 0)) (C := RX7) (T := TX7) (N := 10) hx hb hts (fun _ h => List.mem_cons_of_mem _ (List.mem_append_left _ (List.mem_append_left _ (List.mem_append_left _ (List.mem_append_right _ h))))) hown hK hP p_11 hp_11 rfl 5 (by decide) (hts (.fieldLink RX7 24 "TemplateForge$Machine" "handed" "[I") (List.mem_of_getElem? (i := 15) rfl)) (fun _ h9 => h9) rfl dX7_begin_137 ?_
              refine lv_iload_n hx hb dX7_begin_140 rfl (lv_at hl 3 rfl) ?_
              obtain ⟨p_12, hp_12⟩ := cget_14 cI cZ cP cF q S_121
              have hi_12 : cin S_121 14 0 := Or.inl ⟨by decide, rfl⟩
              have hin_12 := h.1
              have h := h.2
              refine va_iald hx hb hK hP p_12 0 hp_12 rfl hin_12 dX7_begin_141 ?_
              have hi_13 := h.1
              have h := h.2
              obtain ⟨p_13, hp_13⟩ := cget_22 cI cZ cP cF q S_121 hi_13
              have hFc := zm_free hD hS hA
              refine va_callv (va_runV (As := [.int x121_3, .int (cv S_121 140 0 (x121_3 : Int32).toNatClampNeg)]) (rest := []) ⟨hx, hb, hml, hown, hts⟩ (zd_X4_put l D cI cZ cP cF q S_121 y121_2 x121_3 (cv S_121 140 0 (x121_3 : Int32).toNatClampNeg) H.size _ h) (cwV 2 hts zg_zd_X7_begin_zd_X4_put_107 rfl rfl rfl (by decide +kernel) ⟨Nat.le_of_ble_eq_true rfl, Nat.le_of_ble_eq_true rfl⟩) ⟨zCW, va_recv hK hP (ci := 4) (q0 := p_13) rfl hp_13, fun U hU hW => ⟨rfl, by rw [hU], by rw [hU]; exact hP, hE.warm hW, hD.weaken (fun _ _ _ _ => trivial)⟩⟩ rfl rfl hl.1 rfl (lv_room (Nat.le_of_ble_eq_true rfl)) dX7_begin_142 ⟨Nat.le_of_ble_eq_true rfl, Nat.le_of_ble_eq_true rfl⟩) hS (fun q _ h => hFc q h) hFc (fun S14 t H locs ht hvm h hB hz1 hk1 hS => ?_)
              obtain ⟨hP, hD1, hN1⟩ := hB
              rw [ht] at hP
              have hD := hD1.weaken (fun k q _ hq => hFc q.1 hq)
              have hN := hN1.trans hN
              refine lv_iinc (v := x121_3 + 1) (lv' := [(3, .int (x121_3 + 1)), (0, .ref (q 12 0)), (1, .ref (q 24 y121_1)), (2, .ref (q 22 y121_2))]) hx hb dX7_begin_145 hl (k := 3) rfl rfl (by decide) rfl (fun ls hl => ?_)
              refine lv_goto (tgt := 121) hx hb dX7_begin_148 (by decide) ?_
              exact ih_121  S14 y121_1 y121_2 (x121_3 + 1) H locs _ h hP hD hS hN (lv_sub hl [1, 2, 3, 0] rfl)
      obtain ⟨n_121, h⟩ := h
      exact LP_121 n_121 S7 y102_1 y102_2 0 H locs _ h hP hD hS hN (lv_sub hl [1, 2, 3, 0] rfl)
    refine lv_aload_n hx hb dX7_begin_0 rfl (lv_at hl 0 rfl) ?_
    obtain ⟨p_15, hp_15⟩ := cget_12 cI cZ cP cF q S
    have hi_15 : cin S 12 0 := Or.inl ⟨by decide, rfl⟩
    refine va_get (D := D) (ci := 7) (v := .ref (q 1 0)) (C := RX7) (T := TX7) (N := 10) hx hb hts (fun _ h => List.mem_cons_of_mem _ (List.mem_append_left _ (List.mem_append_left _ (List.mem_append_left _ (List.mem_append_right _ h))))) hown hK hP p_15 hp_15 rfl 0 (by decide) (hts (.fieldLink RX7 28 "TemplateForge$Machine" "book" "LTemplateForge$Book;") (List.mem_of_getElem? (i := 20) rfl)) (fun _ h9 => h9) rfl dX7_begin_1 ?_
    refine lv_aload_n hx hb dX7_begin_4 rfl (lv_at hl 0 rfl) ?_
    obtain ⟨p_16, hp_16⟩ := cget_12 cI cZ cP cF q S
    have hi_16 : cin S 12 0 := Or.inl ⟨by decide, rfl⟩
    refine va_get (D := D) (ci := 7) (v := .int (cv S 128 0 0)) (C := RX7) (T := TX7) (N := 10) hx hb hts (fun _ h => List.mem_cons_of_mem _ (List.mem_append_left _ (List.mem_append_left _ (List.mem_append_left _ (List.mem_append_right _ h))))) hown hK hP p_16 hp_16 rfl 8 (by decide) (hts (.fieldLink RX7 56 "TemplateForge$Machine" "called" "I") (List.mem_of_getElem? (i := 21) rfl)) (fun _ h9 => h9) rfl dX7_begin_5 ?_
    obtain ⟨p_17, hp_17⟩ := cget_1 cI cZ cP cF q S
    have hi_17 : cin S 1 0 := Or.inl ⟨by decide, rfl⟩
    refine va_csq (va_Run.run (va_runV (As := [.int (cv S 128 0 0)]) (rest := []) ⟨hx, hb, hml, hown, hts⟩ (zd_X0_at l D cI cZ cP cF q S (cv S 128 0 0)  _ h) (cwV 1 hts zg_zd_X7_begin_zd_X0_at_72 rfl rfl rfl (by decide +kernel) ⟨Nat.le_of_ble_eq_true rfl, Nat.le_of_ble_eq_true rfl⟩) ⟨zCR, va_recv hK hP (ci := 0) (q0 := p_17) rfl hp_17, fun U hU hW => ⟨rfl, by rw [hU]; exact hP, hE.warm hW⟩⟩ rfl rfl hl.1 rfl (lv_room (Nat.le_of_ble_eq_true rfl)) dX7_begin_8 ⟨Nat.le_of_ble_eq_true rfl, Nat.le_of_ble_eq_true rfl⟩)) (fun o_18 ho_18 => ?_)
    obtain ⟨r18, rfl, h⟩ := ho_18
    by_cases hn_19 : r18 < 0
    · have h := h.1 hn_19
      rw [show va_rf (cno q 24 r18) = .null from cn_neg hn_19]
      refine lv_astore_nN (lv' := [(1, .null), (0, .ref (q 12 0))]) hx hb dX7_begin_11 rfl hl (by decide) rfl (fun ls hl => ?_)
      refine lv_aload_n hx hb dX7_begin_12 rfl (lv_at hl 1 rfl) ?_
      refine lv_iconst (v := (-1)) hx hb dX7_begin_13 (by decide) ?_
      obtain ⟨p_20, hp_20⟩ := cget_12 cI cZ cP cF q S
      have hi_20 : cin S 12 0 := Or.inl ⟨by decide, rfl⟩
      have hD0_20 := hD
      refine va_put (D := D) (ci := 7) (v := .int (-1)) (ty := .int) (C := RX7) (T := TX7) (N := 10) hx hb hts (fun _ h => List.mem_cons_of_mem _ (List.mem_append_left _ (List.mem_append_left _ (List.mem_append_left _ (List.mem_append_right _ h))))) tyX7 tyX7_ok nmX7 hown hK hP hD hS p_20 hp_20 rfl 8 (by decide) (hts (.fieldLink RX7 56 "TemplateForge$Machine" "called" "I") (List.mem_of_getElem? (i := 21) rfl)) (fun _ h9 => h9) rfl (by decide +kernel) rfl rfl (Nat.le_of_ble_eq_true rfl) dX7_begin_14 (fun H locs hP hD hS => ?_)
      obtain ⟨S21, eS21⟩ : ∃ z, z = cs S 128 0 (fun _ => (-1)) := ⟨_, rfl⟩
      have hP : va_P D vwCl (cW cI cZ cP cF q S21) H := by rw [eS21, ← cW_put (k := 128) (κ := 12) (i := 0) (g := (fun _ => (-1))) rfl hD0_20 hp_20 hi_20, cput_128]; exact hP
      have hD : va_D A (cW cI cZ cP cF q S21) := by rw [eS21, ← cW_put (k := 128) (κ := 12) (i := 0) (g := (fun _ => (-1))) rfl hD0_20 hp_20 hi_20, cput_128]; exact hD
      have hN : S21.2 = S.2 := by rw [eS21]; exact hN
      have h := h S21 eS21
      refine lv_aload_n hx hb dX7_begin_17 rfl (lv_at hl 1 rfl) ?_
      obtain ⟨p_22, hp_22⟩ := cget_12 cI cZ cP cF q S21
      have hi_22 : cin S21 12 0 := Or.inl ⟨by decide, rfl⟩
      have hFc := zm_free hD hS hA
      refine va_callv (va_runV (As := []) (rest := []) ⟨hx, hb, hml, hown, hts⟩ (zd_X7_stepOn l D cI cZ cP cF q S21  H.size _ h) (cwV 0 hts zg_zd_X7_begin_zd_X7_stepOn_78 rfl rfl rfl (by decide +kernel) ⟨Nat.le_of_ble_eq_true rfl, Nat.le_of_ble_eq_true rfl⟩) ⟨zCW, va_recv hK hP (ci := 7) (q0 := p_22) rfl hp_22, fun U hU hW => ⟨rfl, by rw [hU], by rw [hU]; exact hP, hE.warm hW, hD.weaken (fun _ _ _ _ => trivial)⟩⟩ rfl rfl hl.1 rfl (lv_room (Nat.le_of_ble_eq_true rfl)) dX7_begin_18 ⟨Nat.le_of_ble_eq_true rfl, Nat.le_of_ble_eq_true rfl⟩) hS (fun q _ h => hFc q h) hFc (fun S23 t H locs ht hvm h hB hz1 hk1 hS => ?_)
      obtain ⟨hP, hD1, hN1⟩ := hB
      rw [ht] at hP
      have hD := hD1.weaken (fun k q _ hq => hFc q.1 hq)
      have hN := hN1.trans hN
      refine lv_aload_n hx hb dX7_begin_21 rfl (lv_at hl 1 rfl) ?_
      obtain ⟨p_24, hp_24⟩ := cget_12 cI cZ cP cF q S23
      have hi_24 : cin S23 12 0 := Or.inl ⟨by decide, rfl⟩
      refine va_get (D := D) (ci := 7) (v := .int (cv S23 127 0 0)) (C := RX7) (T := TX7) (N := 10) hx hb hts (fun _ h => List.mem_cons_of_mem _ (List.mem_append_left _ (List.mem_append_left _ (List.mem_append_left _ (List.mem_append_right _ h))))) hown hK hP p_24 hp_24 rfl 7 (by decide) (hts (.fieldLink RX7 53 "TemplateForge$Machine" "ending" "I") (List.mem_of_getElem? (i := 32) rfl)) (fun _ h9 => h9) rfl dX7_begin_22 ?_
      refine lv_iconst (v := 4) hx hb dX7_begin_25 (by decide) ?_
      refine lv_icmp_eq (tgt := 30) hx hb dX7_begin_26 (by decide) (fun c_25 => ?_) (fun c_25 => ?_)
      · have h := h.1 c_25
        refine lv_aload_nN hx hb dX7_begin_30 rfl (lv_at hl 0 rfl) ?_
        refine lv_ifnullN (tgt := 50) hx hb dX7_begin_31 (by decide) ?_
        refine lv_aload_n hx hb dX7_begin_50 rfl (lv_at hl 1 rfl) ?_
        refine lv_iconst (v := 3) hx hb dX7_begin_51 (by decide) ?_
        obtain ⟨p_26, hp_26⟩ := cget_12 cI cZ cP cF q S23
        have hi_26 : cin S23 12 0 := Or.inl ⟨by decide, rfl⟩
        have hD0_26 := hD
        refine va_put (D := D) (ci := 7) (v := .int 3) (ty := .int) (C := RX7) (T := TX7) (N := 10) hx hb hts (fun _ h => List.mem_cons_of_mem _ (List.mem_append_left _ (List.mem_append_left _ (List.mem_append_left _ (List.mem_append_right _ h))))) tyX7 tyX7_ok nmX7 hown hK hP hD hS p_26 hp_26 rfl 7 (by decide) (hts (.fieldLink RX7 53 "TemplateForge$Machine" "ending" "I") (List.mem_of_getElem? (i := 32) rfl)) (fun _ h9 => h9) rfl (by decide +kernel) rfl rfl (Nat.le_of_ble_eq_true rfl) dX7_begin_52 (fun H locs hP hD hS => ?_)
        obtain ⟨S27, eS27⟩ : ∃ z, z = cs S23 127 0 (fun _ => 3) := ⟨_, rfl⟩
        have hP : va_P D vwCl (cW cI cZ cP cF q S27) H := by rw [eS27, ← cW_put (k := 127) (κ := 12) (i := 0) (g := (fun _ => 3)) rfl hD0_26 hp_26 hi_26, cput_127]; exact hP
        have hD : va_D A (cW cI cZ cP cF q S27) := by rw [eS27, ← cW_put (k := 127) (κ := 12) (i := 0) (g := (fun _ => 3)) rfl hD0_26 hp_26 hi_26, cput_127]; exact hD
        have hN : S27.2 = S.2 := by rw [eS27]; exact hN
        have h := h S27 eS27
        exact W.vret hx hb hr (fun t ht hW => ⟨⟨S27, rfl, h, by rw [ht]; exact hP, hD, hN⟩, hS.F ht⟩) hS.2.2 dX7_begin_55
      · have h := h.2 c_25
        exact W.vret hx hb hr (fun t ht hW => ⟨⟨S23, rfl, h, by rw [ht]; exact hP, hD, hN⟩, hS.F ht⟩) hS.2.2 dX7_begin_29
    · have h := h.2 hn_19
      rw [show va_rf (cno q 24 r18) = .ref (q 24 (r18 : Int32).toNatClampNeg) from cn_pos hn_19]
      refine lv_astore_n (lv' := [(1, .ref (q 24 ((r18 : Int32).toNatClampNeg))), (0, .ref (q 12 0))]) hx hb dX7_begin_11 rfl hl (by decide) rfl (fun ls hl => ?_)
      refine lv_aload_n hx hb dX7_begin_12 rfl (lv_at hl 1 rfl) ?_
      refine lv_iconst (v := (-1)) hx hb dX7_begin_13 (by decide) ?_
      obtain ⟨p_28, hp_28⟩ := cget_12 cI cZ cP cF q S
      have hi_28 : cin S 12 0 := Or.inl ⟨by decide, rfl⟩
      have hD0_28 := hD
      refine va_put (D := D) (ci := 7) (v := .int (-1)) (ty := .int) (C := RX7) (T := TX7) (N := 10) hx hb hts (fun _ h => List.mem_cons_of_mem _ (List.mem_append_left _ (List.mem_append_left _ (List.mem_append_left _ (List.mem_append_right _ h))))) tyX7 tyX7_ok nmX7 hown hK hP hD hS p_28 hp_28 rfl 8 (by decide) (hts (.fieldLink RX7 56 "TemplateForge$Machine" "called" "I") (List.mem_of_getElem? (i := 21) rfl)) (fun _ h9 => h9) rfl (by decide +kernel) rfl rfl (Nat.le_of_ble_eq_true rfl) dX7_begin_14 (fun H locs hP hD hS => ?_)
      obtain ⟨S29, eS29⟩ : ∃ z, z = cs S 128 0 (fun _ => (-1)) := ⟨_, rfl⟩
      have hP : va_P D vwCl (cW cI cZ cP cF q S29) H := by rw [eS29, ← cW_put (k := 128) (κ := 12) (i := 0) (g := (fun _ => (-1))) rfl hD0_28 hp_28 hi_28, cput_128]; exact hP
      have hD : va_D A (cW cI cZ cP cF q S29) := by rw [eS29, ← cW_put (k := 128) (κ := 12) (i := 0) (g := (fun _ => (-1))) rfl hD0_28 hp_28 hi_28, cput_128]; exact hD
      have hN : S29.2 = S.2 := by rw [eS29]; exact hN
      have h := h S29 eS29
      refine lv_aload_n hx hb dX7_begin_17 rfl (lv_at hl 1 rfl) ?_
      obtain ⟨p_30, hp_30⟩ := cget_12 cI cZ cP cF q S29
      have hi_30 : cin S29 12 0 := Or.inl ⟨by decide, rfl⟩
      have hFc := zm_free hD hS hA
      refine va_callv (va_runV (As := []) (rest := []) ⟨hx, hb, hml, hown, hts⟩ (zd_X7_stepOn l D cI cZ cP cF q S29  H.size _ h) (cwV 0 hts zg_zd_X7_begin_zd_X7_stepOn_78 rfl rfl rfl (by decide +kernel) ⟨Nat.le_of_ble_eq_true rfl, Nat.le_of_ble_eq_true rfl⟩) ⟨zCW, va_recv hK hP (ci := 7) (q0 := p_30) rfl hp_30, fun U hU hW => ⟨rfl, by rw [hU], by rw [hU]; exact hP, hE.warm hW, hD.weaken (fun _ _ _ _ => trivial)⟩⟩ rfl rfl hl.1 rfl (lv_room (Nat.le_of_ble_eq_true rfl)) dX7_begin_18 ⟨Nat.le_of_ble_eq_true rfl, Nat.le_of_ble_eq_true rfl⟩) hS (fun q _ h => hFc q h) hFc (fun S31 t H locs ht hvm h hB hz1 hk1 hS => ?_)
      obtain ⟨hP, hD1, hN1⟩ := hB
      rw [ht] at hP
      have hD := hD1.weaken (fun k q _ hq => hFc q.1 hq)
      have hN := hN1.trans hN
      refine lv_aload_n hx hb dX7_begin_21 rfl (lv_at hl 1 rfl) ?_
      obtain ⟨p_32, hp_32⟩ := cget_12 cI cZ cP cF q S31
      have hi_32 : cin S31 12 0 := Or.inl ⟨by decide, rfl⟩
      refine va_get (D := D) (ci := 7) (v := .int (cv S31 127 0 0)) (C := RX7) (T := TX7) (N := 10) hx hb hts (fun _ h => List.mem_cons_of_mem _ (List.mem_append_left _ (List.mem_append_left _ (List.mem_append_left _ (List.mem_append_right _ h))))) hown hK hP p_32 hp_32 rfl 7 (by decide) (hts (.fieldLink RX7 53 "TemplateForge$Machine" "ending" "I") (List.mem_of_getElem? (i := 32) rfl)) (fun _ h9 => h9) rfl dX7_begin_22 ?_
      refine lv_iconst (v := 4) hx hb dX7_begin_25 (by decide) ?_
      refine lv_icmp_eq (tgt := 30) hx hb dX7_begin_26 (by decide) (fun c_33 => ?_) (fun c_33 => ?_)
      · have h := h.1 c_33
        refine lv_aload_n hx hb dX7_begin_30 rfl (lv_at hl 0 rfl) ?_
        refine lv_ifnull hx hb dX7_begin_31 ?_
        refine lv_aload_n hx hb dX7_begin_34 rfl (lv_at hl 1 rfl) ?_
        obtain ⟨p_34, hp_34⟩ := cget_12 cI cZ cP cF q S31
        have hi_34 : cin S31 12 0 := Or.inl ⟨by decide, rfl⟩
        refine va_get (D := D) (ci := 7) (v := .int (cv S31 126 0 0)) (C := RX7) (T := TX7) (N := 10) hx hb hts (fun _ h => List.mem_cons_of_mem _ (List.mem_append_left _ (List.mem_append_left _ (List.mem_append_left _ (List.mem_append_right _ h))))) hown hK hP p_34 hp_34 rfl 6 (by decide) (hts (.fieldLink RX7 49 "TemplateForge$Machine" "open" "I") (List.mem_of_getElem? (i := 37) rfl)) (fun _ h9 => h9) rfl dX7_begin_35 ?_
        refine lv_if_lt (tgt := 50) hx hb dX7_begin_38 (by decide) (fun c_35 => ?_) (fun c_35 => ?_)
        · have h := h.1 c_35
          refine lv_aload_n hx hb dX7_begin_50 rfl (lv_at hl 1 rfl) ?_
          refine lv_iconst (v := 3) hx hb dX7_begin_51 (by decide) ?_
          obtain ⟨p_36, hp_36⟩ := cget_12 cI cZ cP cF q S31
          have hi_36 : cin S31 12 0 := Or.inl ⟨by decide, rfl⟩
          have hD0_36 := hD
          refine va_put (D := D) (ci := 7) (v := .int 3) (ty := .int) (C := RX7) (T := TX7) (N := 10) hx hb hts (fun _ h => List.mem_cons_of_mem _ (List.mem_append_left _ (List.mem_append_left _ (List.mem_append_left _ (List.mem_append_right _ h))))) tyX7 tyX7_ok nmX7 hown hK hP hD hS p_36 hp_36 rfl 7 (by decide) (hts (.fieldLink RX7 53 "TemplateForge$Machine" "ending" "I") (List.mem_of_getElem? (i := 32) rfl)) (fun _ h9 => h9) rfl (by decide +kernel) rfl rfl (Nat.le_of_ble_eq_true rfl) dX7_begin_52 (fun H locs hP hD hS => ?_)
          obtain ⟨S37, eS37⟩ : ∃ z, z = cs S31 127 0 (fun _ => 3) := ⟨_, rfl⟩
          have hP : va_P D vwCl (cW cI cZ cP cF q S37) H := by rw [eS37, ← cW_put (k := 127) (κ := 12) (i := 0) (g := (fun _ => 3)) rfl hD0_36 hp_36 hi_36, cput_127]; exact hP
          have hD : va_D A (cW cI cZ cP cF q S37) := by rw [eS37, ← cW_put (k := 127) (κ := 12) (i := 0) (g := (fun _ => 3)) rfl hD0_36 hp_36 hi_36, cput_127]; exact hD
          have hN : S37.2 = S.2 := by rw [eS37]; exact hN
          have h := h S37 eS37
          exact W.vret hx hb hr (fun t ht hW => ⟨⟨S37, rfl, h, by rw [ht]; exact hP, hD, hN⟩, hS.F ht⟩) hS.2.2 dX7_begin_55
        · have h := h.2 c_35
          refine lv_aload_n hx hb dX7_begin_41 rfl (lv_at hl 1 rfl) ?_
          obtain ⟨p_38, hp_38⟩ := cget_12 cI cZ cP cF q S31
          have hi_38 : cin S31 12 0 := Or.inl ⟨by decide, rfl⟩
          refine va_get (D := D) (ci := 7) (v := .int (cv S31 126 0 0)) (C := RX7) (T := TX7) (N := 10) hx hb hts (fun _ h => List.mem_cons_of_mem _ (List.mem_append_left _ (List.mem_append_left _ (List.mem_append_left _ (List.mem_append_right _ h))))) hown hK hP p_38 hp_38 rfl 6 (by decide) (hts (.fieldLink RX7 49 "TemplateForge$Machine" "open" "I") (List.mem_of_getElem? (i := 37) rfl)) (fun _ h9 => h9) rfl dX7_begin_42 ?_
          refine lv_bipush (v := 16) hx hb dX7_begin_45 (by decide) ?_
          refine lv_icmp_lt (tgt := 56) hx hb dX7_begin_47 (by decide) (fun c_39 => ?_) (fun c_39 => ?_)
          · have h := h.1 c_39
            refine lv_aload_n hx hb dX7_begin_56 rfl (lv_at hl 1 rfl) ?_
            obtain ⟨p_40, hp_40⟩ := cget_12 cI cZ cP cF q S31
            have hi_40 : cin S31 12 0 := Or.inl ⟨by decide, rfl⟩
            refine va_get (D := D) (ci := 7) (v := .ref (q 13 0)) (C := RX7) (T := TX7) (N := 10) hx hb hts (fun _ h => List.mem_cons_of_mem _ (List.mem_append_left _ (List.mem_append_left _ (List.mem_append_left _ (List.mem_append_right _ h))))) hown hK hP p_40 hp_40 rfl 4 (by decide) (hts (.fieldLink RX7 20 "TemplateForge$Machine" "frames" "[LTemplateForge$Frame;") (List.mem_of_getElem? (i := 38) rfl)) (fun _ h9 => h9) rfl dX7_begin_57 ?_
            refine lv_aload_n hx hb dX7_begin_60 rfl (lv_at hl 1 rfl) ?_
            obtain ⟨p_41, hp_41⟩ := cget_12 cI cZ cP cF q S31
            have hi_41 : cin S31 12 0 := Or.inl ⟨by decide, rfl⟩
            refine va_get (D := D) (ci := 7) (v := .int (cv S31 126 0 0)) (C := RX7) (T := TX7) (N := 10) hx hb hts (fun _ h => List.mem_cons_of_mem _ (List.mem_append_left _ (List.mem_append_left _ (List.mem_append_left _ (List.mem_append_right _ h))))) hown hK hP p_41 hp_41 rfl 6 (by decide) (hts (.fieldLink RX7 49 "TemplateForge$Machine" "open" "I") (List.mem_of_getElem? (i := 37) rfl)) (fun _ h9 => h9) rfl dX7_begin_61 ?_
            obtain ⟨p_42, hp_42⟩ := cget_13 cI cZ cP cF q S31
            have hi_42 : cin S31 13 0 := Or.inl ⟨by decide, rfl⟩
            have hin_42 := h.1
            have h := h.2
            refine va_aldq hx hb hK hP p_42 3 hp_42 rfl hin_42 dX7_begin_64 ?_
            refine lv_astore_n (lv' := [(2, .ref (q 22 ((cv S31 126 0 0 : Int32).toNatClampNeg))), (1, .ref (q 24 ((r18 : Int32).toNatClampNeg))), (0, .ref (q 12 0))]) hx hb dX7_begin_65 rfl hl (by decide) rfl (fun ls hl => ?_)
            refine lv_aload_n hx hb dX7_begin_66 rfl (lv_at hl 2 rfl) ?_
            refine lv_dup hx hb dX7_begin_67 rfl ?_
            obtain ⟨p_43, hp_43⟩ := cget_12 cI cZ cP cF q S31
            have hi_43 : cin S31 12 0 := Or.inl ⟨by decide, rfl⟩
            refine va_get (D := D) (ci := 7) (v := .int (cv S31 126 0 0)) (C := RX7) (T := TX7) (N := 10) hx hb hts (fun _ h => List.mem_cons_of_mem _ (List.mem_append_left _ (List.mem_append_left _ (List.mem_append_left _ (List.mem_append_right _ h))))) hown hK hP p_43 hp_43 rfl 6 (by decide) (hts (.fieldLink RX7 49 "TemplateForge$Machine" "open" "I") (List.mem_of_getElem? (i := 37) rfl)) (fun _ h9 => h9) rfl dX7_begin_68 ?_
            refine lv_iconst (v := 1) hx hb dX7_begin_71 (by decide) ?_
            refine lv_iadd hx hb dX7_begin_72 ?_
            obtain ⟨p_44, hp_44⟩ := cget_12 cI cZ cP cF q S31
            have hi_44 : cin S31 12 0 := Or.inl ⟨by decide, rfl⟩
            have hD0_44 := hD
            refine va_put (D := D) (ci := 7) (v := .int ((cv S31 126 0 0) + 1)) (ty := .int) (C := RX7) (T := TX7) (N := 10) hx hb hts (fun _ h => List.mem_cons_of_mem _ (List.mem_append_left _ (List.mem_append_left _ (List.mem_append_left _ (List.mem_append_right _ h))))) tyX7 tyX7_ok nmX7 hown hK hP hD hS p_44 hp_44 rfl 6 (by decide) (hts (.fieldLink RX7 49 "TemplateForge$Machine" "open" "I") (List.mem_of_getElem? (i := 37) rfl)) (fun _ h9 => h9) rfl (by decide +kernel) rfl rfl (Nat.le_of_ble_eq_true rfl) dX7_begin_73 (fun H locs hP hD hS => ?_)
            obtain ⟨S45, eS45⟩ : ∃ z, z = cs S31 126 0 (fun _ => (cv S31 126 0 0) + 1) := ⟨_, rfl⟩
            have hP : va_P D vwCl (cW cI cZ cP cF q S45) H := by rw [eS45, ← cW_put (k := 126) (κ := 12) (i := 0) (g := (fun _ => (cv S31 126 0 0) + 1)) rfl hD0_44 hp_44 hi_44, cput_126]; exact hP
            have hD : va_D A (cW cI cZ cP cF q S45) := by rw [eS45, ← cW_put (k := 126) (κ := 12) (i := 0) (g := (fun _ => (cv S31 126 0 0) + 1)) rfl hD0_44 hp_44 hi_44, cput_126]; exact hD
            have hN : S45.2 = S.2 := by rw [eS45]; exact hN
            have h := h S45 eS45
            refine lv_aload_n hx hb dX7_begin_76 rfl (lv_at hl 2 rfl) ?_
            obtain ⟨p_46, hp_46⟩ := cget_12 cI cZ cP cF q S45
            have hi_46 : cin S45 12 0 := Or.inl ⟨by decide, rfl⟩
            refine va_get (D := D) (ci := 7) (v := .ref (q 20 0)) (C := RX7) (T := TX7) (N := 10) hx hb hts (fun _ h => List.mem_cons_of_mem _ (List.mem_append_left _ (List.mem_append_left _ (List.mem_append_left _ (List.mem_append_right _ h))))) hown hK hP p_46 hp_46 rfl 3 (by decide) (hts (.fieldLink RX7 12 "TemplateForge$Machine" "tally" "LTemplateForge$Tally;") (List.mem_of_getElem? (i := 30) rfl)) (fun _ h9 => h9) rfl dX7_begin_77 ?_
            refine lv_dup hx hb dX7_begin_80 rfl ?_
            obtain ⟨p_47, hp_47⟩ := cget_20 cI cZ cP cF q S45
            have hi_47 : cin S45 20 0 := Or.inl ⟨by decide, rfl⟩
            refine va_get (D := D) (ci := 10) (v := .int (cv S45 202 0 0)) (C := RX10) (T := TX10) (N := 7) hx hb hts (fun _ h => List.mem_cons_of_mem _ (List.mem_append_right _ h)) hown hK hP p_47 hp_47 rfl 2 (by decide) (hts (.fieldLink RX7 81 "TemplateForge$Tally" "calls" "I") (List.mem_of_getElem? (i := 39) rfl)) (fun _ h9 => h9) rfl dX7_begin_81 ?_
            refine lv_iconst (v := 1) hx hb dX7_begin_84 (by decide) ?_
            refine lv_iadd hx hb dX7_begin_85 ?_
            obtain ⟨p_48, hp_48⟩ := cget_20 cI cZ cP cF q S45
            have hi_48 : cin S45 20 0 := Or.inl ⟨by decide, rfl⟩
            have hD0_48 := hD
            refine va_put (D := D) (ci := 10) (v := .int ((cv S45 202 0 0) + 1)) (ty := .int) (C := RX10) (T := TX10) (N := 7) hx hb hts (fun _ h => List.mem_cons_of_mem _ (List.mem_append_right _ h)) tyX10 tyX10_ok nmX10 hown hK hP hD hS p_48 hp_48 rfl 2 (by decide) (hts (.fieldLink RX7 81 "TemplateForge$Tally" "calls" "I") (List.mem_of_getElem? (i := 39) rfl)) (fun _ h9 => h9) rfl (by decide +kernel) rfl rfl (Nat.le_of_ble_eq_true rfl) dX7_begin_86 (fun H locs hP hD hS => ?_)
            obtain ⟨S49, eS49⟩ : ∃ z, z = cs S45 202 0 (fun _ => (cv S45 202 0 0) + 1) := ⟨_, rfl⟩
            have hP : va_P D vwCl (cW cI cZ cP cF q S49) H := by rw [eS49, ← cW_put (k := 202) (κ := 20) (i := 0) (g := (fun _ => (cv S45 202 0 0) + 1)) rfl hD0_48 hp_48 hi_48, cput_202]; exact hP
            have hD : va_D A (cW cI cZ cP cF q S49) := by rw [eS49, ← cW_put (k := 202) (κ := 20) (i := 0) (g := (fun _ => (cv S45 202 0 0) + 1)) rfl hD0_48 hp_48 hi_48, cput_202]; exact hD
            have hN : S49.2 = S.2 := by rw [eS49]; exact hN
            have h := h S49 eS49
            refine lv_aload_n hx hb dX7_begin_89 rfl (lv_at hl 0 rfl) ?_
            refine lv_aload_n hx hb dX7_begin_90 rfl (lv_at hl 1 rfl) ?_
            have hi_50 := h.1
            have h := h.2
            obtain ⟨p_50, hp_50⟩ := cget_22 cI cZ cP cF q S49 hi_50
            have hD0_50 := hD
            refine va_put (D := D) (ci := 4) (v := .ref (q 24 ((r18 : Int32).toNatClampNeg))) (ty := .object "TemplateForge$Program") (C := RX4) (T := TX4) (N := 5) hx hb hts (fun _ h => List.mem_cons_of_mem _ (List.mem_append_left _ (List.mem_append_left _ (List.mem_append_left _ (List.mem_append_left _ (List.mem_append_right _ h)))))) tyX4 tyX4_ok nmX4 hown hK hP hD hS p_50 hp_50 rfl 0 (by decide) (hts (.fieldLink RX7 84 "TemplateForge$Frame" "program" "LTemplateForge$Program;") (List.mem_of_getElem? (i := 40) rfl)) (fun _ h9 => h9) rfl (by decide +kernel) rfl rfl (Nat.le_of_ble_eq_true rfl) dX7_begin_91 (fun H locs hP hD hS => ?_)
            obtain ⟨S51, eS51⟩ : ∃ z, z = cs S49 220 ((cv S31 126 0 0 : Int32).toNatClampNeg) (fun _ => r18) := ⟨_, rfl⟩
            have hP : va_P D vwCl (cW cI cZ cP cF q S51) H := by rw [eS51, ← cW_put (k := 220) (κ := 22) (i := ((cv S31 126 0 0 : Int32).toNatClampNeg)) (g := (fun _ => r18)) rfl hD0_50 hp_50 hi_50, cput_220, show cn q 24 r18 = .ref (q 24 ((r18 : Int32).toNatClampNeg)) from cn_pos hn_19]; exact hP
            have hD : va_D A (cW cI cZ cP cF q S51) := by rw [eS51, ← cW_put (k := 220) (κ := 22) (i := ((cv S31 126 0 0 : Int32).toNatClampNeg)) (g := (fun _ => r18)) rfl hD0_50 hp_50 hi_50, cput_220, show cn q 24 r18 = .ref (q 24 ((r18 : Int32).toNatClampNeg)) from cn_pos hn_19]; exact hD
            have hN : S51.2 = S.2 := by rw [eS51]; exact hN
            have h := h S51 eS51
            refine lv_aload_n hx hb dX7_begin_94 rfl (lv_at hl 0 rfl) ?_
            refine lv_aload_n hx hb dX7_begin_95 rfl (lv_at hl 1 rfl) ?_
            have hi_52 := h.1
            have h := h.2
            obtain ⟨p_52, hp_52⟩ := cget_24 cI cZ cP cF q S51 hi_52
            by_cases hn_53 : (cv S51 249 ((r18 : Int32).toNatClampNeg) 0) < 0
            · have h := h.1 hn_53
              refine va_get (D := D) (ci := 8) (v := .null) (C := RX8) (T := TX8) (N := 10) hx hb hts (fun _ h => List.mem_cons_of_mem _ (List.mem_append_left _ (List.mem_append_left _ (List.mem_append_right _ h)))) hown hK hP p_52 hp_52 rfl 9 (by decide) (hts (.fieldLink RX7 88 "TemplateForge$Program" "plain" "LTemplateForge$Code;") (List.mem_of_getElem? (i := 41) rfl)) (fun _ h9 => h9) (congrArg some (cn_neg hn_53)) dX7_begin_96 ?_
              have hi_54 := h.1
              have h := h.2
              obtain ⟨p_54, hp_54⟩ := cget_22 cI cZ cP cF q S51 hi_54
              have hD0_54 := hD
              refine va_put (D := D) (ci := 4) (v := .null) (ty := .object "TemplateForge$Code") (C := RX4) (T := TX4) (N := 5) hx hb hts (fun _ h => List.mem_cons_of_mem _ (List.mem_append_left _ (List.mem_append_left _ (List.mem_append_left _ (List.mem_append_left _ (List.mem_append_right _ h)))))) tyX4 tyX4_ok nmX4 hown hK hP hD hS p_54 hp_54 rfl 1 (by decide) (hts (.fieldLink RX7 94 "TemplateForge$Frame" "code" "LTemplateForge$Code;") (List.mem_of_getElem? (i := 42) rfl)) (fun _ h9 => h9) rfl (by decide +kernel) rfl rfl (Nat.le_of_ble_eq_true rfl) dX7_begin_99 (fun H locs hP hD hS => ?_)
              obtain ⟨S55, eS55⟩ : ∃ z, z = cs S51 221 ((cv S31 126 0 0 : Int32).toNatClampNeg) (fun _ => (-1)) := ⟨_, rfl⟩
              have hP : va_P D vwCl (cW cI cZ cP cF q S55) H := by rw [eS55, ← cW_put (k := 221) (κ := 22) (i := ((cv S31 126 0 0 : Int32).toNatClampNeg)) (g := (fun _ => (-1))) rfl hD0_54 hp_54 hi_54, cput_221, show cn q 32 (-1) = .null from cn_neg (by decide)]; exact hP
              have hD : va_D A (cW cI cZ cP cF q S55) := by rw [eS55, ← cW_put (k := 221) (κ := 22) (i := ((cv S31 126 0 0 : Int32).toNatClampNeg)) (g := (fun _ => (-1))) rfl hD0_54 hp_54 hi_54, cput_221, show cn q 32 (-1) = .null from cn_neg (by decide)]; exact hD
              have hN : S55.2 = S.2 := by rw [eS55]; exact hN
              have h := h S55 eS55
              exact J_102  S55 ((r18 : Int32).toNatClampNeg) ((cv S31 126 0 0 : Int32).toNatClampNeg) H locs _ h hP hD hS hN (lv_sub hl [2, 1, 0] rfl)
            · have h := h.2 hn_53
              refine va_get (D := D) (ci := 8) (v := .ref (q 32 ((cv S51 249 ((r18 : Int32).toNatClampNeg) 0) : Int32).toNatClampNeg)) (C := RX8) (T := TX8) (N := 10) hx hb hts (fun _ h => List.mem_cons_of_mem _ (List.mem_append_left _ (List.mem_append_left _ (List.mem_append_right _ h)))) hown hK hP p_52 hp_52 rfl 9 (by decide) (hts (.fieldLink RX7 88 "TemplateForge$Program" "plain" "LTemplateForge$Code;") (List.mem_of_getElem? (i := 41) rfl)) (fun _ h9 => h9) (congrArg some (cn_pos hn_53)) dX7_begin_96 ?_
              have hi_56 := h.1
              have h := h.2
              obtain ⟨p_56, hp_56⟩ := cget_22 cI cZ cP cF q S51 hi_56
              have hD0_56 := hD
              refine va_put (D := D) (ci := 4) (v := .ref (q 32 (((cv S51 249 ((r18 : Int32).toNatClampNeg) 0) : Int32).toNatClampNeg))) (ty := .object "TemplateForge$Code") (C := RX4) (T := TX4) (N := 5) hx hb hts (fun _ h => List.mem_cons_of_mem _ (List.mem_append_left _ (List.mem_append_left _ (List.mem_append_left _ (List.mem_append_left _ (List.mem_append_right _ h)))))) tyX4 tyX4_ok nmX4 hown hK hP hD hS p_56 hp_56 rfl 1 (by decide) (hts (.fieldLink RX7 94 "TemplateForge$Frame" "code" "LTemplateForge$Code;") (List.mem_of_getElem? (i := 42) rfl)) (fun _ h9 => h9) rfl (by decide +kernel) rfl rfl (Nat.le_of_ble_eq_true rfl) dX7_begin_99 (fun H locs hP hD hS => ?_)
              obtain ⟨S57, eS57⟩ : ∃ z, z = cs S51 221 ((cv S31 126 0 0 : Int32).toNatClampNeg) (fun _ => (cv S51 249 ((r18 : Int32).toNatClampNeg) 0)) := ⟨_, rfl⟩
              have hP : va_P D vwCl (cW cI cZ cP cF q S57) H := by rw [eS57, ← cW_put (k := 221) (κ := 22) (i := ((cv S31 126 0 0 : Int32).toNatClampNeg)) (g := (fun _ => (cv S51 249 ((r18 : Int32).toNatClampNeg) 0))) rfl hD0_56 hp_56 hi_56, cput_221, show cn q 32 (cv S51 249 ((r18 : Int32).toNatClampNeg) 0) = .ref (q 32 (((cv S51 249 ((r18 : Int32).toNatClampNeg) 0) : Int32).toNatClampNeg)) from cn_pos hn_53]; exact hP
              have hD : va_D A (cW cI cZ cP cF q S57) := by rw [eS57, ← cW_put (k := 221) (κ := 22) (i := ((cv S31 126 0 0 : Int32).toNatClampNeg)) (g := (fun _ => (cv S51 249 ((r18 : Int32).toNatClampNeg) 0))) rfl hD0_56 hp_56 hi_56, cput_221, show cn q 32 (cv S51 249 ((r18 : Int32).toNatClampNeg) 0) = .ref (q 32 (((cv S51 249 ((r18 : Int32).toNatClampNeg) 0) : Int32).toNatClampNeg)) from cn_pos hn_53]; exact hD
              have hN : S57.2 = S.2 := by rw [eS57]; exact hN
              have h := h S57 eS57
              exact J_102  S57 ((r18 : Int32).toNatClampNeg) ((cv S31 126 0 0 : Int32).toNatClampNeg) H locs _ h hP hD hS hN (lv_sub hl [2, 1, 0] rfl)
          · have h := h.2 c_39
            refine lv_aload_n hx hb dX7_begin_50 rfl (lv_at hl 1 rfl) ?_
            refine lv_iconst (v := 3) hx hb dX7_begin_51 (by decide) ?_
            obtain ⟨p_58, hp_58⟩ := cget_12 cI cZ cP cF q S31
            have hi_58 : cin S31 12 0 := Or.inl ⟨by decide, rfl⟩
            have hD0_58 := hD
            refine va_put (D := D) (ci := 7) (v := .int 3) (ty := .int) (C := RX7) (T := TX7) (N := 10) hx hb hts (fun _ h => List.mem_cons_of_mem _ (List.mem_append_left _ (List.mem_append_left _ (List.mem_append_left _ (List.mem_append_right _ h))))) tyX7 tyX7_ok nmX7 hown hK hP hD hS p_58 hp_58 rfl 7 (by decide) (hts (.fieldLink RX7 53 "TemplateForge$Machine" "ending" "I") (List.mem_of_getElem? (i := 32) rfl)) (fun _ h9 => h9) rfl (by decide +kernel) rfl rfl (Nat.le_of_ble_eq_true rfl) dX7_begin_52 (fun H locs hP hD hS => ?_)
            obtain ⟨S59, eS59⟩ : ∃ z, z = cs S31 127 0 (fun _ => 3) := ⟨_, rfl⟩
            have hP : va_P D vwCl (cW cI cZ cP cF q S59) H := by rw [eS59, ← cW_put (k := 127) (κ := 12) (i := 0) (g := (fun _ => 3)) rfl hD0_58 hp_58 hi_58, cput_127]; exact hP
            have hD : va_D A (cW cI cZ cP cF q S59) := by rw [eS59, ← cW_put (k := 127) (κ := 12) (i := 0) (g := (fun _ => 3)) rfl hD0_58 hp_58 hi_58, cput_127]; exact hD
            have hN : S59.2 = S.2 := by rw [eS59]; exact hN
            have h := h S59 eS59
            exact W.vret hx hb hr (fun t ht hW => ⟨⟨S59, rfl, h, by rw [ht]; exact hP, hD, hN⟩, hS.F ht⟩) hS.2.2 dX7_begin_55
      · have h := h.2 c_33
        exact W.vret hx hb hr (fun t ht hW => ⟨⟨S31, rfl, h, by rw [ht]; exact hP, hD, hN⟩, hS.F ht⟩) hS.2.2 dX7_begin_29
  exact key _ _ hP va_S.rf
