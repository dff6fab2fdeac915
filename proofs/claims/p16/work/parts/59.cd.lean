def wp_X11_write (S : CST) (a1 : Int32) (a2 : Int32) (a3 : Int32) (Post : CST → Int32 → Prop) : Prop :=
  wp_X0_at S a1 (fun r3 => ((r3 < 0) → (Post S (-2))) ∧ ((¬ (r3 < 0)) → ((((a2 : Int32) < 0) → (Post S (-2))) ∧ ((¬ ((a2 : Int32) < 0)) → ((((a2 : Int32) < 20) → (cin S 24 ((r3 : Int32).toNatClampNeg) ∧ (wp_X8_isRight S ((r3 : Int32).toNatClampNeg) (fun r8 => (((r8 : Int32) = 0) → (cin S 24 ((r3 : Int32).toNatClampNeg) ∧ (wp_X8_append S ((r3 : Int32).toNatClampNeg) a2 a3 (fun S11 r11 => Post S11 r11)))) ∧ ((¬ ((r8 : Int32) = 0)) → (Post S (-3))))))) ∧ ((¬ ((a2 : Int32) < 20)) → (Post S (-2))))))))
def zw_zd_X11_write_w0 : List Cond := [.fieldLink RX11 15 "TemplateForge" "book" "LTemplateForge$Book;", .code yX0_at cX0_at 2 (some (.object "TemplateForge$Program")), .fieldLink RX0 17 "TemplateForge$Book" "told" "I", .fieldLink RX0 11 "TemplateForge$Book" "programs" "[LTemplateForge$Program;", .methodLink RX11 48 yX0_at, .instanceMethod yX0_at, .selects RX0 yX0_at yX0_at, .initialized RX0, .code yX8_isRight cX8_isRight 1 (some .boolean), .fieldLink RX8 28 "TemplateForge$Program" "deepest" "I", .methodLink RX11 52 yX8_isRight, .instanceMethod yX8_isRight, .selects RX8 yX8_isRight yX8_isRight, .initialized RX8, .code yX8_append cX8_append 3 (some .int), .fieldLink RX8 41 "TemplateForge$Program" "length" "I"]
def zw_zd_X11_write_w1 : List Cond := [.fieldLink RX8 18 "TemplateForge$Program" "ops" "[I", .fieldLink RX8 22 "TemplateForge$Program" "xs" "[I", .methodLink RX11 58 yX8_append, .instanceMethod yX8_append, .selects RX8 yX8_append yX8_append]
def zw_zd_X11_write : List Cond := .code yX11_write cX11_write 5 (some .int) :: ((zw_zd_X11_write_w0 ++ (zw_zd_X11_write_w1)) ++ wsX110 ++ wsX00 ++ wsX80)
set_option maxRecDepth 100000 in
theorem zg_zd_X11_write_zd_X0_at_48_a : GoodIn zw_zd_X11_write [.methodLink RX11 48 yX0_at, .instanceMethod yX0_at, .selects RX0 yX0_at yX0_at, .initialized RX0] := goodIn_r _ [5, 6, 7, 8] rfl (by decide +kernel)
set_option maxRecDepth 100000 in
theorem zg_zd_X11_write_zd_X0_at_48_c : GoodIn zw_zd_X11_write [.code yX0_at cX0_at 2 (some (.object "TemplateForge$Program"))] := goodIn_r _ [2] rfl (by decide +kernel)
set_option maxRecDepth 100000 in
theorem zg_zd_X11_write_zd_X0_at_48_0 : GoodIn zw_zd_X11_write zw_zd_X0_at_w0 := goodIn_r _ [3, 4] rfl (by decide +kernel)
theorem zg_zd_X11_write_zd_X0_at_48 : GoodIn zw_zd_X11_write (wsV RX11 48 RX0 yX0_at zw_zd_X0_at) := goodIn_app zg_zd_X11_write_zd_X0_at_48_a (goodIn_ca (a := (zw_zd_X0_at_w0)) (show GoodIn zw_zd_X11_write (.code yX0_at cX0_at 2 (some (.object "TemplateForge$Program")) :: (zw_zd_X0_at_w0)) from goodIn_app zg_zd_X11_write_zd_X0_at_48_c (zg_zd_X11_write_zd_X0_at_48_0)) (fun w h => ⟨(fun _ h => List.mem_cons_of_mem _ (List.mem_append_left _ (List.mem_append_right _ h))) w h, good_of_word (List.all_eq_true.mp zgw_X0 w h)⟩))
set_option maxRecDepth 100000 in
theorem zg_zd_X11_write_zd_X8_isRight_52_a : GoodIn zw_zd_X11_write [.methodLink RX11 52 yX8_isRight, .instanceMethod yX8_isRight, .selects RX8 yX8_isRight yX8_isRight, .initialized RX8] := goodIn_r _ [11, 12, 13, 14] rfl (by decide +kernel)
set_option maxRecDepth 100000 in
theorem zg_zd_X11_write_zd_X8_isRight_52_c : GoodIn zw_zd_X11_write [.code yX8_isRight cX8_isRight 1 (some .boolean)] := goodIn_r _ [9] rfl (by decide +kernel)
set_option maxRecDepth 100000 in
theorem zg_zd_X11_write_zd_X8_isRight_52_0 : GoodIn zw_zd_X11_write zw_zd_X8_isRight_w0 := goodIn_r _ [10] rfl (by decide +kernel)
theorem zg_zd_X11_write_zd_X8_isRight_52 : GoodIn zw_zd_X11_write (wsV RX11 52 RX8 yX8_isRight zw_zd_X8_isRight) := goodIn_app zg_zd_X11_write_zd_X8_isRight_52_a (goodIn_ca (a := (zw_zd_X8_isRight_w0)) (show GoodIn zw_zd_X11_write (.code yX8_isRight cX8_isRight 1 (some .boolean) :: (zw_zd_X8_isRight_w0)) from goodIn_app zg_zd_X11_write_zd_X8_isRight_52_c (zg_zd_X11_write_zd_X8_isRight_52_0)) (fun w h => ⟨(fun _ h => List.mem_cons_of_mem _ (List.mem_append_right _ h)) w h, good_of_word (List.all_eq_true.mp zgw_X8 w h)⟩))
set_option maxRecDepth 100000 in
theorem zg_zd_X11_write_zd_X8_append_58_a : GoodIn zw_zd_X11_write [.methodLink RX11 58 yX8_append, .instanceMethod yX8_append, .selects RX8 yX8_append yX8_append, .initialized RX8] := goodIn_r _ [19, 20, 21, 14] rfl (by decide +kernel)
set_option maxRecDepth 100000 in
theorem zg_zd_X11_write_zd_X8_append_58_c : GoodIn zw_zd_X11_write [.code yX8_append cX8_append 3 (some .int)] := goodIn_r _ [15] rfl (by decide +kernel)
set_option maxRecDepth 100000 in
theorem zg_zd_X11_write_zd_X8_append_58_0 : GoodIn zw_zd_X11_write zw_zd_X8_append_w0 := goodIn_r _ [16, 17, 18] rfl (by decide +kernel)
theorem zg_zd_X11_write_zd_X8_append_58 : GoodIn zw_zd_X11_write (wsV RX11 58 RX8 yX8_append zw_zd_X8_append) := goodIn_app zg_zd_X11_write_zd_X8_append_58_a (goodIn_ca (a := (zw_zd_X8_append_w0)) (show GoodIn zw_zd_X11_write (.code yX8_append cX8_append 3 (some .int) :: (zw_zd_X8_append_w0)) from goodIn_app zg_zd_X11_write_zd_X8_append_58_c (zg_zd_X11_write_zd_X8_append_58_0)) (fun w h => ⟨(fun _ h => List.mem_cons_of_mem _ (List.mem_append_right _ h)) w h, good_of_word (List.all_eq_true.mp zgw_X8 w h)⟩))
set_option maxHeartbeats 16000000 in
set_option maxRecDepth 100000 in
theorem zd_X11_write (l : Launch) (D : va_G) (cI cZ cP cF : Nat) (q : Nat → Nat → Nat) (S : CST) (a1 : Int32) (a2 : Int32) (a3 : Int32) (sz : Nat) (Post : CST → Int32 → Prop) (h : wp_X11_write S a1 a2 a3 Post) : Met l yX11_write zw_zd_X11_write ({ frames := 1, cells := 0, slots := 0, locals := 22 }) (va_Pc [.ref (q 0 0), .int a1, .int a2, .int a3] (fun U => U.heap.size = sz ∧ va_P D vwCl (cW cI cZ cP cF q S) U.heap ∧ zF D cI cZ cP cF U ∧ va_D (fun _ => True) (cW cI cZ cP cF q S))) (va_Qi (fun r S' => Post S' r) (fun (S' : CST) t => va_P D vwCl (cW cI cZ cP cF q S') t.heap ∧ va_D (va_A (cW cI cZ cP cF q S) sz) (cW cI cZ cP cF q S') ∧ S'.2 = S.2) (va_A (cW cI cZ cP cF q S) sz)) 0 0 (va_A (cW cI cZ cP cF q S) sz) := by
  unfold wp_X11_write at h
  refine Met.ofW (cc := cX11_write) (maxL := 5) (ret := (some .int)) (by decide) rfl ?_
  intro p e s m args below meth c s₁ B hml hv
  obtain ⟨rfl, hsz, hP, hE, hD0⟩ := hv
  have hx := B.exec
  have hb := B.bytes
  have hr := B.returns
  have hts := atoms_spec (ws := zw_zd_X11_write) B.pre
  have hown : s.vm.findClass RX11 = some m.cls := findClass_of_methodNamed B.named
  have hlocks := B.notSynchronized
  have hK := hE.k
  subst hsz
  have hD := hD0.self (sz := s.heap.size)
  generalize hAe : va_A (cW cI cZ cP cF q S) s.heap.size = A at hD ⊢
  have hA : ∀ q : Nat, s.heap.size ≤ q → A q := fun q h => by rw [← hAe]; exact Or.inr h
  have hN : S.2 = S.2 := rfl
  have hl := lv_entry ([.ref (q 0 0), .int a1, .int a2, .int a3]) (n := 5) (Nat.le_of_ble_eq_true rfl)
  rw [lg_entry_eq]
  generalize (lg_sl ([.ref (q 0 0), .int a1, .int a2, .int a3]) ++ List.replicate (5 - (lg_sl ([.ref (q 0 0), .int a1, .int a2, .int a3])).length) Slot.unset).toArray = ls at hl ⊢
  have hl : lv_has ls 5 [(0, .ref (q 0 0)), (1, .int a1), (2, .int a2), (3, .int a3)] := hl
  have key : ∀ (H : Heap) (locs : List Loc), va_P D vwCl (cW cI cZ cP cF q S) H → va_S A s.heap H locs → W p l e (headSpec zw_zd_X11_write ({ frames := 1, cells := 0, slots := 0, locals := 22 })).room s m ([.ref (q 0 0), .int a1, .int a2, .int a3] : List Value).toArray below meth c H locs 0 0 (MQ below (va_Qi (fun r S' => Post S' r) (fun (S' : CST) t => va_P D vwCl (cW cI cZ cP cF q S') t.heap ∧ va_D A (cW cI cZ cP cF q S') ∧ S'.2 = S.2) A) ([.ref (q 0 0), .int a1, .int a2, .int a3] : List Value).toArray s 0 0 A) (F0 m 0 ls []) := by
    intro H locs hP hS
    refine lv_aload_n hx hb dX11_write_0 rfl (lv_at hl 0 rfl) ?_
    obtain ⟨p_1, hp_1⟩ := cget_0 cI cZ cP cF q S
    have hi_1 : cin S 0 0 := Or.inl ⟨by decide, rfl⟩
    refine va_get (D := D) (ci := 11) (v := .ref (q 1 0)) (C := RX11) (T := TX11) (N := 4) hx hb hts (fun _ h => List.mem_cons_of_mem _ (List.mem_append_left _ (List.mem_append_left _ (List.mem_append_right _ h)))) hown hK hP p_1 hp_1 rfl 0 (by decide) (hts (.fieldLink RX11 15 "TemplateForge" "book" "LTemplateForge$Book;") (List.mem_of_getElem? (i := 1) rfl)) (fun _ h9 => h9) rfl dX11_write_1 ?_
    refine lv_iload_n hx hb dX11_write_4 rfl (lv_at hl 1 rfl) ?_
    obtain ⟨p_2, hp_2⟩ := cget_1 cI cZ cP cF q S
    have hi_2 : cin S 1 0 := Or.inl ⟨by decide, rfl⟩
    refine va_csq (va_Run.run (va_runV (As := [.int a1]) (rest := []) ⟨hx, hb, hml, hown, hts⟩ (zd_X0_at l D cI cZ cP cF q S a1  _ h) (cwV 1 hts zg_zd_X11_write_zd_X0_at_48 rfl rfl rfl (by decide +kernel) ⟨Nat.le_of_ble_eq_true rfl, Nat.le_of_ble_eq_true rfl⟩) ⟨zCR, va_recv hK hP (ci := 0) (q0 := p_2) rfl hp_2, fun U hU hW => ⟨rfl, by rw [hU]; exact hP, hE.warm hW⟩⟩ rfl rfl hl.1 rfl (lv_room (Nat.le_of_ble_eq_true rfl)) dX11_write_5 ⟨Nat.le_of_ble_eq_true rfl, Nat.le_of_ble_eq_true rfl⟩)) (fun o_3 ho_3 => ?_)
    obtain ⟨r3, rfl, h⟩ := ho_3
    by_cases hn_4 : r3 < 0
    · have h := h.1 hn_4
      rw [show va_rf (cno q 24 r3) = .null from cn_neg hn_4]
      refine lv_astoreN (lv' := [(4, .null), (0, .ref (q 0 0)), (1, .int a1), (2, .int a2), (3, .int a3)]) hx hb dX11_write_8 hl (by decide) rfl (fun ls hl => ?_)
      refine lv_aloadN hx hb dX11_write_10 (lv_at hl 0 rfl) ?_
      refine lv_ifnullN (tgt := 25) hx hb dX11_write_12 (by decide) ?_
      refine lv_bipush (v := (-2)) hx hb dX11_write_25 (by decide) ?_
      exact W.iret (v := (-2)) hx hb hr (fun t ht hW => ⟨⟨_, S, rfl, h, by rw [ht]; exact hP, hD, hN⟩, hS.F ht⟩) hS.2.2 dX11_write_27
    · have h := h.2 hn_4
      rw [show va_rf (cno q 24 r3) = .ref (q 24 (r3 : Int32).toNatClampNeg) from cn_pos hn_4]
      refine lv_astore (lv' := [(4, .ref (q 24 ((r3 : Int32).toNatClampNeg))), (0, .ref (q 0 0)), (1, .int a1), (2, .int a2), (3, .int a3)]) hx hb dX11_write_8 hl (by decide) rfl (fun ls hl => ?_)
      refine lv_aload hx hb dX11_write_10 (lv_at hl 0 rfl) ?_
      refine lv_ifnull hx hb dX11_write_12 ?_
      refine lv_iload_n hx hb dX11_write_15 rfl (lv_at hl 3 rfl) ?_
      refine lv_if_lt (tgt := 25) hx hb dX11_write_16 (by decide) (fun c_5 => ?_) (fun c_5 => ?_)
      · have h := h.1 c_5
        refine lv_bipush (v := (-2)) hx hb dX11_write_25 (by decide) ?_
        exact W.iret (v := (-2)) hx hb hr (fun t ht hW => ⟨⟨_, S, rfl, h, by rw [ht]; exact hP, hD, hN⟩, hS.F ht⟩) hS.2.2 dX11_write_27
      · have h := h.2 c_5
        refine lv_iload_n hx hb dX11_write_19 rfl (lv_at hl 3 rfl) ?_
        refine lv_bipush (v := 20) hx hb dX11_write_20 (by decide) ?_
        refine lv_icmp_lt (tgt := 28) hx hb dX11_write_22 (by decide) (fun c_6 => ?_) (fun c_6 => ?_)
        · have h := h.1 c_6
          refine lv_aload hx hb dX11_write_28 (lv_at hl 0 rfl) ?_
          have hi_7 := h.1
          have h := h.2
          obtain ⟨p_7, hp_7⟩ := cget_24 cI cZ cP cF q S hi_7
          refine vp_callSi (va_Run.run (va_runV (As := []) (rest := []) ⟨hx, hb, hml, hown, hts⟩ (zd_X8_isRight l D cI cZ cP cF q S ((r3 : Int32).toNatClampNeg)  _ h) (cwV 0 hts zg_zd_X11_write_zd_X8_isRight_52 rfl rfl rfl (by decide +kernel) ⟨Nat.le_of_ble_eq_true rfl, Nat.le_of_ble_eq_true rfl⟩) ⟨zCR, va_recv hK hP (ci := 8) (q0 := p_7) rfl hp_7, fun U hU hW => ⟨rfl, by rw [hU]; exact hP, hE.warm hW⟩⟩ rfl rfl hl.1 rfl (lv_room (Nat.le_of_ble_eq_true rfl)) dX11_write_30 ⟨Nat.le_of_ble_eq_true rfl, Nat.le_of_ble_eq_true rfl⟩)) (fun r8 h => ?_)
          refine lv_if_eq (tgt := 39) hx hb dX11_write_33 (by decide) (fun c_9 => ?_) (fun c_9 => ?_)
          · have h := h.1 c_9
            refine lv_aload hx hb dX11_write_39 (lv_at hl 0 rfl) ?_
            refine lv_iload_n hx hb dX11_write_41 rfl (lv_at hl 3 rfl) ?_
            refine lv_iload_n hx hb dX11_write_42 rfl (lv_at hl 4 rfl) ?_
            have hi_10 := h.1
            have h := h.2
            obtain ⟨p_10, hp_10⟩ := cget_24 cI cZ cP cF q S hi_10
            have hFc := zm_free hD hS hA
            refine va_calli (va_runV (As := [.int a2, .int a3]) (rest := []) ⟨hx, hb, hml, hown, hts⟩ (zd_X8_append l D cI cZ cP cF q S ((r3 : Int32).toNatClampNeg) a2 a3 H.size _ h) (cwV 2 hts zg_zd_X11_write_zd_X8_append_58 rfl rfl rfl (by decide +kernel) ⟨Nat.le_of_ble_eq_true rfl, Nat.le_of_ble_eq_true rfl⟩) ⟨zCW, va_recv hK hP (ci := 8) (q0 := p_10) rfl hp_10, fun U hU hW => ⟨rfl, by rw [hU], by rw [hU]; exact hP, hE.warm hW, hD.weaken (fun _ _ _ _ => trivial)⟩⟩ rfl rfl hl.1 rfl (lv_room (Nat.le_of_ble_eq_true rfl)) dX11_write_43 ⟨Nat.le_of_ble_eq_true rfl, Nat.le_of_ble_eq_true rfl⟩) hS (fun q _ h => hFc q h) hFc (fun r11 S11 t H locs ht hvm h hB hz1 hk1 hS => ?_)
            obtain ⟨hP, hD1, hN1⟩ := hB
            rw [ht] at hP
            have hD := hD1.weaken (fun k q _ hq => hFc q.1 hq)
            have hN := hN1.trans hN
            exact W.iret (v := r11) hx hb hr (fun t ht hW => ⟨⟨_, S11, rfl, h, by rw [ht]; exact hP, hD, hN⟩, hS.F ht⟩) hS.2.2 dX11_write_46
          · have h := h.2 c_9
            refine lv_bipush (v := (-3)) hx hb dX11_write_36 (by decide) ?_
            exact W.iret (v := (-3)) hx hb hr (fun t ht hW => ⟨⟨_, S, rfl, h, by rw [ht]; exact hP, hD, hN⟩, hS.F ht⟩) hS.2.2 dX11_write_38
        · have h := h.2 c_6
          refine lv_bipush (v := (-2)) hx hb dX11_write_25 (by decide) ?_
          exact W.iret (v := (-2)) hx hb hr (fun t ht hW => ⟨⟨_, S, rfl, h, by rw [ht]; exact hP, hD, hN⟩, hS.F ht⟩) hS.2.2 dX11_write_27
  exact key _ _ hP va_S.rf

def wp_X11_fault (S : CST) (Post : Int32 → Prop) : Prop :=
  Post (cv S 103 0 0)
def zw_zd_X11_fault_w0 : List Cond := [.fieldLink RX11 31 "TemplateForge" "looker" "LTemplateForge$Looker;", .fieldLink RX11 65 "TemplateForge$Looker" "found" "I"]
def zw_zd_X11_fault : List Cond := .code yX11_fault cX11_fault 1 (some .int) :: ((zw_zd_X11_fault_w0) ++ wsX110 ++ wsX60)
set_option maxHeartbeats 16000000 in
set_option maxRecDepth 100000 in
theorem zd_X11_fault (l : Launch) (D : va_G) (cI cZ cP cF : Nat) (q : Nat → Nat → Nat) (S : CST) (Post : Int32 → Prop) (h : wp_X11_fault S Post) : Met l yX11_fault zw_zd_X11_fault ({ frames := 0, cells := 0, slots := 0, locals := 0 }) (va_Pc [.ref (q 0 0)] (fun U => va_P D vwCl (cW cI cZ cP cF q S) U.heap ∧ zF D cI cZ cP cF U)) (vp_Si Post) 0 0 (fun _ => False) := by
  unfold wp_X11_fault at h
  refine Met.ofW (cc := cX11_fault) (maxL := 1) (ret := (some .int)) (by decide) rfl ?_
  intro p e s m args below meth c s₁ B hml hv
  obtain ⟨rfl, hP, hE⟩ := hv
  have hx := B.exec
  have hb := B.bytes
  have hr := B.returns
  have hts := atoms_spec (ws := zw_zd_X11_fault) B.pre
  have hown : s.vm.findClass RX11 = some m.cls := findClass_of_methodNamed B.named
  have hlocks := B.notSynchronized
  have hK := hE.k
  have hl := lv_entry ([.ref (q 0 0)]) (n := 1) (Nat.le_of_ble_eq_true rfl)
  rw [lg_entry_eq]
  generalize (lg_sl ([.ref (q 0 0)]) ++ List.replicate (1 - (lg_sl ([.ref (q 0 0)])).length) Slot.unset).toArray = ls at hl ⊢
  have hl : lv_has ls 1 [(0, .ref (q 0 0))] := hl
  refine lv_aload_n hx hb dX11_fault_0 rfl (lv_at hl 0 rfl) ?_
  obtain ⟨p_1, hp_1⟩ := cget_0 cI cZ cP cF q S
  have hi_1 : cin S 0 0 := Or.inl ⟨by decide, rfl⟩
  refine va_get (D := D) (ci := 11) (v := .ref (q 10 0)) (C := RX11) (T := TX11) (N := 4) hx hb hts (fun _ h => List.mem_cons_of_mem _ (List.mem_append_left _ (List.mem_append_right _ h))) hown hK hP p_1 hp_1 rfl 2 (by decide) (hts (.fieldLink RX11 31 "TemplateForge" "looker" "LTemplateForge$Looker;") (List.mem_of_getElem? (i := 1) rfl)) (fun _ h9 => h9) rfl dX11_fault_1 ?_
  obtain ⟨p_2, hp_2⟩ := cget_10 cI cZ cP cF q S
  have hi_2 : cin S 10 0 := Or.inl ⟨by decide, rfl⟩
  refine va_get (D := D) (ci := 6) (v := .int (cv S 103 0 0)) (C := RX6) (T := TX6) (N := 4) hx hb hts (fun _ h => List.mem_cons_of_mem _ (List.mem_append_right _ h)) hown hK hP p_2 hp_2 rfl 3 (by decide) (hts (.fieldLink RX11 65 "TemplateForge$Looker" "found" "I") (List.mem_of_getElem? (i := 2) rfl)) (fun _ h9 => h9) rfl dX11_fault_4 ?_
  exact W.iret (v := cv S 103 0 0) hx hb hr (fun t ht hW => ⟨_, rfl, h, ht⟩) (fun q h => by cases h) dX11_fault_7

def wp_X11_keep (S : CST) (a1 : Int32) (a2 : Int32) (Post : CST → Int32 → Prop) : Prop :=
  (((a1 : Int32) < 0) → (Post S (-2147483648))) ∧ ((¬ ((a1 : Int32) < 0)) → ((((a1 : Int32) < 8) → (wp_X2_valueOf S a1 (fun r5 => wp_X2_put S a1 a2 (fun S8 => Post S8 r5)))) ∧ ((¬ ((a1 : Int32) < 8)) → (Post S (-2147483648)))))
def zw_zd_X11_keep_w0 : List Cond := [.constant RX11 69 (-2147483648), .fieldLink RX11 22 "TemplateForge" "data" "LTemplateForge$Data;", .code yX2_valueOf cX2_valueOf 2 (some .int), .fieldLink RX2 9 "TemplateForge$Data" "fields" "[I", .methodLink RX11 70 yX2_valueOf, .instanceMethod yX2_valueOf, .selects RX2 yX2_valueOf yX2_valueOf, .initialized RX2, .code yX2_put cX2_put 3 none, .methodLink RX11 74 yX2_put, .instanceMethod yX2_put, .selects RX2 yX2_put yX2_put]
def zw_zd_X11_keep : List Cond := .code yX11_keep cX11_keep 4 (some .int) :: ((zw_zd_X11_keep_w0) ++ wsX110 ++ wsX20)
set_option maxRecDepth 100000 in
theorem zg_zd_X11_keep_zd_X2_valueOf_70_a : GoodIn zw_zd_X11_keep [.methodLink RX11 70 yX2_valueOf, .instanceMethod yX2_valueOf, .selects RX2 yX2_valueOf yX2_valueOf, .initialized RX2] := goodIn_r _ [5, 6, 7, 8] rfl (by decide +kernel)
set_option maxRecDepth 100000 in
theorem zg_zd_X11_keep_zd_X2_valueOf_70_c : GoodIn zw_zd_X11_keep [.code yX2_valueOf cX2_valueOf 2 (some .int)] := goodIn_r _ [3] rfl (by decide +kernel)
set_option maxRecDepth 100000 in
theorem zg_zd_X11_keep_zd_X2_valueOf_70_0 : GoodIn zw_zd_X11_keep zw_zd_X2_valueOf_w0 := goodIn_r _ [4] rfl (by decide +kernel)
theorem zg_zd_X11_keep_zd_X2_valueOf_70 : GoodIn zw_zd_X11_keep (wsV RX11 70 RX2 yX2_valueOf zw_zd_X2_valueOf) := goodIn_app zg_zd_X11_keep_zd_X2_valueOf_70_a (goodIn_ca (a := (zw_zd_X2_valueOf_w0)) (show GoodIn zw_zd_X11_keep (.code yX2_valueOf cX2_valueOf 2 (some .int) :: (zw_zd_X2_valueOf_w0)) from goodIn_app zg_zd_X11_keep_zd_X2_valueOf_70_c (zg_zd_X11_keep_zd_X2_valueOf_70_0)) (fun w h => ⟨(fun _ h => List.mem_cons_of_mem _ (List.mem_append_right _ h)) w h, good_of_word (List.all_eq_true.mp zgw_X2 w h)⟩))
set_option maxRecDepth 100000 in
theorem zg_zd_X11_keep_zd_X2_put_74_a : GoodIn zw_zd_X11_keep [.methodLink RX11 74 yX2_put, .instanceMethod yX2_put, .selects RX2 yX2_put yX2_put, .initialized RX2] := goodIn_r _ [10, 11, 12, 8] rfl (by decide +kernel)
set_option maxRecDepth 100000 in
theorem zg_zd_X11_keep_zd_X2_put_74_c : GoodIn zw_zd_X11_keep [.code yX2_put cX2_put 3 none] := goodIn_r _ [9] rfl (by decide +kernel)
set_option maxRecDepth 100000 in
theorem zg_zd_X11_keep_zd_X2_put_74_0 : GoodIn zw_zd_X11_keep zw_zd_X2_put_w0 := goodIn_r _ [4] rfl (by decide +kernel)
theorem zg_zd_X11_keep_zd_X2_put_74 : GoodIn zw_zd_X11_keep (wsV RX11 74 RX2 yX2_put zw_zd_X2_put) := goodIn_app zg_zd_X11_keep_zd_X2_put_74_a (goodIn_ca (a := (zw_zd_X2_put_w0)) (show GoodIn zw_zd_X11_keep (.code yX2_put cX2_put 3 none :: (zw_zd_X2_put_w0)) from goodIn_app zg_zd_X11_keep_zd_X2_put_74_c (zg_zd_X11_keep_zd_X2_put_74_0)) (fun w h => ⟨(fun _ h => List.mem_cons_of_mem _ (List.mem_append_right _ h)) w h, good_of_word (List.all_eq_true.mp zgw_X2 w h)⟩))
set_option maxHeartbeats 16000000 in
set_option maxRecDepth 100000 in
theorem zd_X11_keep (l : Launch) (D : va_G) (cI cZ cP cF : Nat) (q : Nat → Nat → Nat) (S : CST) (a1 : Int32) (a2 : Int32) (sz : Nat) (Post : CST → Int32 → Prop) (h : wp_X11_keep S a1 a2 Post) : Met l yX11_keep zw_zd_X11_keep ({ frames := 1, cells := 0, slots := 0, locals := 22 }) (va_Pc [.ref (q 0 0), .int a1, .int a2] (fun U => U.heap.size = sz ∧ va_P D vwCl (cW cI cZ cP cF q S) U.heap ∧ zF D cI cZ cP cF U ∧ va_D (fun _ => True) (cW cI cZ cP cF q S))) (va_Qi (fun r S' => Post S' r) (fun (S' : CST) t => va_P D vwCl (cW cI cZ cP cF q S') t.heap ∧ va_D (va_A (cW cI cZ cP cF q S) sz) (cW cI cZ cP cF q S') ∧ S'.2 = S.2) (va_A (cW cI cZ cP cF q S) sz)) 0 0 (va_A (cW cI cZ cP cF q S) sz) := by
  unfold wp_X11_keep at h
  refine Met.ofW (cc := cX11_keep) (maxL := 4) (ret := (some .int)) (by decide) rfl ?_
  intro p e s m args below meth c s₁ B hml hv
  obtain ⟨rfl, hsz, hP, hE, hD0⟩ := hv
  have hx := B.exec
  have hb := B.bytes
  have hr := B.returns
  have hts := atoms_spec (ws := zw_zd_X11_keep) B.pre
  have hown : s.vm.findClass RX11 = some m.cls := findClass_of_methodNamed B.named
  have hlocks := B.notSynchronized
  have hK := hE.k
  subst hsz
  have hD := hD0.self (sz := s.heap.size)
  generalize hAe : va_A (cW cI cZ cP cF q S) s.heap.size = A at hD ⊢
  have hA : ∀ q : Nat, s.heap.size ≤ q → A q := fun q h => by rw [← hAe]; exact Or.inr h
  have hN : S.2 = S.2 := rfl
  have hl := lv_entry ([.ref (q 0 0), .int a1, .int a2]) (n := 4) (Nat.le_of_ble_eq_true rfl)
  rw [lg_entry_eq]
  generalize (lg_sl ([.ref (q 0 0), .int a1, .int a2]) ++ List.replicate (4 - (lg_sl ([.ref (q 0 0), .int a1, .int a2])).length) Slot.unset).toArray = ls at hl ⊢
  have hl : lv_has ls 4 [(0, .ref (q 0 0)), (1, .int a1), (2, .int a2)] := hl
  have key : ∀ (H : Heap) (locs : List Loc), va_P D vwCl (cW cI cZ cP cF q S) H → va_S A s.heap H locs → W p l e (headSpec zw_zd_X11_keep ({ frames := 1, cells := 0, slots := 0, locals := 22 })).room s m ([.ref (q 0 0), .int a1, .int a2] : List Value).toArray below meth c H locs 0 0 (MQ below (va_Qi (fun r S' => Post S' r) (fun (S' : CST) t => va_P D vwCl (cW cI cZ cP cF q S') t.heap ∧ va_D A (cW cI cZ cP cF q S') ∧ S'.2 = S.2) A) ([.ref (q 0 0), .int a1, .int a2] : List Value).toArray s 0 0 A) (F0 m 0 ls []) := by
    intro H locs hP hS
    refine lv_iload_n hx hb dX11_keep_0 rfl (lv_at hl 1 rfl) ?_
    refine lv_if_lt (tgt := 10) hx hb dX11_keep_1 (by decide) (fun c_1 => ?_) (fun c_1 => ?_)
    · have h := h.1 c_1
      refine lv_ldc hx hb hown (hts (.constant RX11 69 (-2147483648)) (List.mem_of_getElem? (i := 1) rfl)) dX11_keep_10 ?_
      exact W.iret (v := (-2147483648)) hx hb hr (fun t ht hW => ⟨⟨_, S, rfl, h, by rw [ht]; exact hP, hD, hN⟩, hS.F ht⟩) hS.2.2 dX11_keep_12
    · have h := h.2 c_1
      refine lv_iload_n hx hb dX11_keep_4 rfl (lv_at hl 1 rfl) ?_
      refine lv_bipush (v := 8) hx hb dX11_keep_5 (by decide) ?_
      refine lv_icmp_lt (tgt := 13) hx hb dX11_keep_7 (by decide) (fun c_2 => ?_) (fun c_2 => ?_)
      · have h := h.1 c_2
        refine lv_aload_n hx hb dX11_keep_13 rfl (lv_at hl 0 rfl) ?_
        obtain ⟨p_3, hp_3⟩ := cget_0 cI cZ cP cF q S
        have hi_3 : cin S 0 0 := Or.inl ⟨by decide, rfl⟩
        refine va_get (D := D) (ci := 11) (v := .ref (q 3 0)) (C := RX11) (T := TX11) (N := 4) hx hb hts (fun _ h => List.mem_cons_of_mem _ (List.mem_append_left _ (List.mem_append_right _ h))) hown hK hP p_3 hp_3 rfl 1 (by decide) (hts (.fieldLink RX11 22 "TemplateForge" "data" "LTemplateForge$Data;") (List.mem_of_getElem? (i := 2) rfl)) (fun _ h9 => h9) rfl dX11_keep_14 ?_
        refine lv_iload_n hx hb dX11_keep_17 rfl (lv_at hl 1 rfl) ?_
        obtain ⟨p_4, hp_4⟩ := cget_3 cI cZ cP cF q S
        have hi_4 : cin S 3 0 := Or.inl ⟨by decide, rfl⟩
        refine vp_callSi (va_Run.run (va_runV (As := [.int a1]) (rest := []) ⟨hx, hb, hml, hown, hts⟩ (zd_X2_valueOf l D cI cZ cP cF q S a1  _ h) (cwV 1 hts zg_zd_X11_keep_zd_X2_valueOf_70 rfl rfl rfl (by decide +kernel) ⟨Nat.le_of_ble_eq_true rfl, Nat.le_of_ble_eq_true rfl⟩) ⟨zCR, va_recv hK hP (ci := 2) (q0 := p_4) rfl hp_4, fun U hU hW => ⟨rfl, by rw [hU]; exact hP, hE.warm hW⟩⟩ rfl rfl hl.1 rfl (lv_room (Nat.le_of_ble_eq_true rfl)) dX11_keep_18 ⟨Nat.le_of_ble_eq_true rfl, Nat.le_of_ble_eq_true rfl⟩)) (fun r5 h => ?_)
        refine lv_istore_n (lv' := [(3, .int r5), (0, .ref (q 0 0)), (1, .int a1), (2, .int a2)]) hx hb dX11_keep_21 rfl hl (by decide) rfl (fun ls hl => ?_)
        refine lv_aload_n hx hb dX11_keep_22 rfl (lv_at hl 1 rfl) ?_
        obtain ⟨p_6, hp_6⟩ := cget_0 cI cZ cP cF q S
        have hi_6 : cin S 0 0 := Or.inl ⟨by decide, rfl⟩
        refine va_get (D := D) (ci := 11) (v := .ref (q 3 0)) (C := RX11) (T := TX11) (N := 4) hx hb hts (fun _ h => List.mem_cons_of_mem _ (List.mem_append_left _ (List.mem_append_right _ h))) hown hK hP p_6 hp_6 rfl 1 (by decide) (hts (.fieldLink RX11 22 "TemplateForge" "data" "LTemplateForge$Data;") (List.mem_of_getElem? (i := 2) rfl)) (fun _ h9 => h9) rfl dX11_keep_23 ?_
        refine lv_iload_n hx hb dX11_keep_26 rfl (lv_at hl 2 rfl) ?_
        refine lv_iload_n hx hb dX11_keep_27 rfl (lv_at hl 3 rfl) ?_
        obtain ⟨p_7, hp_7⟩ := cget_3 cI cZ cP cF q S
        have hi_7 : cin S 3 0 := Or.inl ⟨by decide, rfl⟩
        have hFc := zm_free hD hS hA
        refine va_callv (va_runV (As := [.int a1, .int a2]) (rest := []) ⟨hx, hb, hml, hown, hts⟩ (zd_X2_put l D cI cZ cP cF q S a1 a2 H.size _ h) (cwV 2 hts zg_zd_X11_keep_zd_X2_put_74 rfl rfl rfl (by decide +kernel) ⟨Nat.le_of_ble_eq_true rfl, Nat.le_of_ble_eq_true rfl⟩) ⟨zCW, va_recv hK hP (ci := 2) (q0 := p_7) rfl hp_7, fun U hU hW => ⟨rfl, by rw [hU], by rw [hU]; exact hP, hE.warm hW, hD.weaken (fun _ _ _ _ => trivial)⟩⟩ rfl rfl hl.1 rfl (lv_room (Nat.le_of_ble_eq_true rfl)) dX11_keep_28 ⟨Nat.le_of_ble_eq_true rfl, Nat.le_of_ble_eq_true rfl⟩) hS (fun q _ h => hFc q h) hFc (fun S8 t H locs ht hvm h hB hz1 hk1 hS => ?_)
        obtain ⟨hP, hD1, hN1⟩ := hB
        rw [ht] at hP
        have hD := hD1.weaken (fun k q _ hq => hFc q.1 hq)
        have hN := hN1.trans hN
        refine lv_iload_n hx hb dX11_keep_31 rfl (lv_at hl 0 rfl) ?_
        exact W.iret (v := r5) hx hb hr (fun t ht hW => ⟨⟨_, S8, rfl, h, by rw [ht]; exact hP, hD, hN⟩, hS.F ht⟩) hS.2.2 dX11_keep_32
      · have h := h.2 c_2
        refine lv_ldc hx hb hown (hts (.constant RX11 69 (-2147483648)) (List.mem_of_getElem? (i := 1) rfl)) dX11_keep_10 ?_
        exact W.iret (v := (-2147483648)) hx hb hr (fun t ht hW => ⟨⟨_, S, rfl, h, by rw [ht]; exact hP, hD, hN⟩, hS.F ht⟩) hS.2.2 dX11_keep_12
  exact key _ _ hP va_S.rf

def wp_X11_field (S : CST) (a1 : Int32) (Post : Int32 → Prop) : Prop :=
  (((a1 : Int32) < 0) → (Post (-2147483648))) ∧ ((¬ ((a1 : Int32) < 0)) → ((((a1 : Int32) < 8) → (wp_X2_valueOf S a1 (fun r5 => Post r5))) ∧ ((¬ ((a1 : Int32) < 8)) → (Post (-2147483648)))))
def zw_zd_X11_field_w0 : List Cond := [.constant RX11 69 (-2147483648), .fieldLink RX11 22 "TemplateForge" "data" "LTemplateForge$Data;", .code yX2_valueOf cX2_valueOf 2 (some .int), .fieldLink RX2 9 "TemplateForge$Data" "fields" "[I", .methodLink RX11 70 yX2_valueOf, .instanceMethod yX2_valueOf, .selects RX2 yX2_valueOf yX2_valueOf, .initialized RX2]
def zw_zd_X11_field : List Cond := .code yX11_field cX11_field 2 (some .int) :: ((zw_zd_X11_field_w0) ++ wsX110 ++ wsX20)
set_option maxRecDepth 100000 in
theorem zg_zd_X11_field_zd_X2_valueOf_70_a : GoodIn zw_zd_X11_field [.methodLink RX11 70 yX2_valueOf, .instanceMethod yX2_valueOf, .selects RX2 yX2_valueOf yX2_valueOf, .initialized RX2] := goodIn_r _ [5, 6, 7, 8] rfl (by decide +kernel)
set_option maxRecDepth 100000 in
theorem zg_zd_X11_field_zd_X2_valueOf_70_c : GoodIn zw_zd_X11_field [.code yX2_valueOf cX2_valueOf 2 (some .int)] := goodIn_r _ [3] rfl (by decide +kernel)
set_option maxRecDepth 100000 in
theorem zg_zd_X11_field_zd_X2_valueOf_70_0 : GoodIn zw_zd_X11_field zw_zd_X2_valueOf_w0 := goodIn_r _ [4] rfl (by decide +kernel)
theorem zg_zd_X11_field_zd_X2_valueOf_70 : GoodIn zw_zd_X11_field (wsV RX11 70 RX2 yX2_valueOf zw_zd_X2_valueOf) := goodIn_app zg_zd_X11_field_zd_X2_valueOf_70_a (goodIn_ca (a := (zw_zd_X2_valueOf_w0)) (show GoodIn zw_zd_X11_field (.code yX2_valueOf cX2_valueOf 2 (some .int) :: (zw_zd_X2_valueOf_w0)) from goodIn_app zg_zd_X11_field_zd_X2_valueOf_70_c (zg_zd_X11_field_zd_X2_valueOf_70_0)) (fun w h => ⟨(fun _ h => List.mem_cons_of_mem _ (List.mem_append_right _ h)) w h, good_of_word (List.all_eq_true.mp zgw_X2 w h)⟩))
set_option maxHeartbeats 16000000 in
set_option maxRecDepth 100000 in
theorem zd_X11_field (l : Launch) (D : va_G) (cI cZ cP cF : Nat) (q : Nat → Nat → Nat) (S : CST) (a1 : Int32) (Post : Int32 → Prop) (h : wp_X11_field S a1 Post) : Met l yX11_field zw_zd_X11_field ({ frames := 1, cells := 0, slots := 0, locals := 21 }) (va_Pc [.ref (q 0 0), .int a1] (fun U => va_P D vwCl (cW cI cZ cP cF q S) U.heap ∧ zF D cI cZ cP cF U)) (vp_Si Post) 0 0 (fun _ => False) := by
  unfold wp_X11_field at h
  refine Met.ofW (cc := cX11_field) (maxL := 2) (ret := (some .int)) (by decide) rfl ?_
  intro p e s m args below meth c s₁ B hml hv
  obtain ⟨rfl, hP, hE⟩ := hv
  have hx := B.exec
  have hb := B.bytes
  have hr := B.returns
  have hts := atoms_spec (ws := zw_zd_X11_field) B.pre
  have hown : s.vm.findClass RX11 = some m.cls := findClass_of_methodNamed B.named
  have hlocks := B.notSynchronized
  have hK := hE.k
  have hl := lv_entry ([.ref (q 0 0), .int a1]) (n := 2) (Nat.le_of_ble_eq_true rfl)
  rw [lg_entry_eq]
  generalize (lg_sl ([.ref (q 0 0), .int a1]) ++ List.replicate (2 - (lg_sl ([.ref (q 0 0), .int a1])).length) Slot.unset).toArray = ls at hl ⊢
  have hl : lv_has ls 2 [(0, .ref (q 0 0)), (1, .int a1)] := hl
  refine lv_iload_n hx hb dX11_field_0 rfl (lv_at hl 1 rfl) ?_
  refine lv_if_lt (tgt := 10) hx hb dX11_field_1 (by decide) (fun c_1 => ?_) (fun c_1 => ?_)
  · have h := h.1 c_1
    refine lv_ldc hx hb hown (hts (.constant RX11 69 (-2147483648)) (List.mem_of_getElem? (i := 1) rfl)) dX11_field_10 ?_
    refine lv_goto (tgt := 23) hx hb dX11_field_12 (by decide) ?_
    exact W.iret (v := (-2147483648)) hx hb hr (fun t ht hW => ⟨_, rfl, h, ht⟩) (fun q h => by cases h) dX11_field_23
  · have h := h.2 c_1
    refine lv_iload_n hx hb dX11_field_4 rfl (lv_at hl 1 rfl) ?_
    refine lv_bipush (v := 8) hx hb dX11_field_5 (by decide) ?_
    refine lv_icmp_lt (tgt := 15) hx hb dX11_field_7 (by decide) (fun c_2 => ?_) (fun c_2 => ?_)
    · have h := h.1 c_2
      refine lv_aload_n hx hb dX11_field_15 rfl (lv_at hl 0 rfl) ?_
      obtain ⟨p_3, hp_3⟩ := cget_0 cI cZ cP cF q S
      have hi_3 : cin S 0 0 := Or.inl ⟨by decide, rfl⟩
      refine va_get (D := D) (ci := 11) (v := .ref (q 3 0)) (C := RX11) (T := TX11) (N := 4) hx hb hts (fun _ h => List.mem_cons_of_mem _ (List.mem_append_left _ (List.mem_append_right _ h))) hown hK hP p_3 hp_3 rfl 1 (by decide) (hts (.fieldLink RX11 22 "TemplateForge" "data" "LTemplateForge$Data;") (List.mem_of_getElem? (i := 2) rfl)) (fun _ h9 => h9) rfl dX11_field_16 ?_
      refine lv_iload_n hx hb dX11_field_19 rfl (lv_at hl 1 rfl) ?_
      obtain ⟨p_4, hp_4⟩ := cget_3 cI cZ cP cF q S
      have hi_4 : cin S 3 0 := Or.inl ⟨by decide, rfl⟩
      refine vp_callSi (va_Run.run (va_runV (As := [.int a1]) (rest := []) ⟨hx, hb, hml, hown, hts⟩ (zd_X2_valueOf l D cI cZ cP cF q S a1  _ h) (cwV 1 hts zg_zd_X11_field_zd_X2_valueOf_70 rfl rfl rfl (by decide +kernel) ⟨Nat.le_of_ble_eq_true rfl, Nat.le_of_ble_eq_true rfl⟩) ⟨zCR, va_recv hK hP (ci := 2) (q0 := p_4) rfl hp_4, fun U hU hW => ⟨rfl, by rw [hU]; exact hP, hE.warm hW⟩⟩ rfl rfl hl.1 rfl (lv_room (Nat.le_of_ble_eq_true rfl)) dX11_field_20 ⟨Nat.le_of_ble_eq_true rfl, Nat.le_of_ble_eq_true rfl⟩)) (fun r5 h => ?_)
      exact W.iret (v := r5) hx hb hr (fun t ht hW => ⟨_, rfl, h, ht⟩) (fun q h => by cases h) dX11_field_23
    · have h := h.2 c_2
      refine lv_ldc hx hb hown (hts (.constant RX11 69 (-2147483648)) (List.mem_of_getElem? (i := 1) rfl)) dX11_field_10 ?_
      refine lv_goto (tgt := 23) hx hb dX11_field_12 (by decide) ?_
      exact W.iret (v := (-2147483648)) hx hb hr (fun t ht hW => ⟨_, rfl, h, ht⟩) (fun q h => by cases h) dX11_field_23

def wp_X11_lose (S : CST) (a1 : Int32) (Post : CST → Int32 → Prop) : Prop :=
  (((a1 : Int32) < 0) → (Post S (-2))) ∧ ((¬ ((a1 : Int32) < 0)) → ((((a1 : Int32) < 4) → (wp_X2_lengthOf S a1 (fun r5 => wp_X2_renew S a1 (-1) (fun S8 => Post S8 r5)))) ∧ ((¬ ((a1 : Int32) < 4)) → (Post S (-2)))))
def zw_zd_X11_lose_w0 : List Cond := [.fieldLink RX11 22 "TemplateForge" "data" "LTemplateForge$Data;", .code yX2_lengthOf cX2_lengthOf 2 (some .int), .fieldLink RX2 15 "TemplateForge$Data" "lengths" "[I", .methodLink RX11 78 yX2_lengthOf, .instanceMethod yX2_lengthOf, .selects RX2 yX2_lengthOf yX2_lengthOf, .initialized RX2, .code yX2_renew cX2_renew 3 none, .fieldLink RX2 18 "TemplateForge$Data" "items" "[I", .code yJ7_fill_fda19 cJ7_fill_fda19 5 none, .code yJ7_rangeCheck_23922 cJ7_rangeCheck_23922 3 none, .methodLink RJ7 13 yJ7_rangeCheck_23922, .static yJ7_rangeCheck_23922, .initialized RJ7, .methodLink RX2 27 yJ7_fill_fda19, .static yJ7_fill_fda19]
def zw_zd_X11_lose_w1 : List Cond := [.methodLink RX11 81 yX2_renew, .instanceMethod yX2_renew, .selects RX2 yX2_renew yX2_renew]
def zw_zd_X11_lose : List Cond := .code yX11_lose cX11_lose 3 (some .int) :: ((zw_zd_X11_lose_w0 ++ (zw_zd_X11_lose_w1)) ++ wsX110 ++ wsX20)
set_option maxRecDepth 100000 in
theorem zg_zd_X11_lose_zd_X2_lengthOf_78_a : GoodIn zw_zd_X11_lose [.methodLink RX11 78 yX2_lengthOf, .instanceMethod yX2_lengthOf, .selects RX2 yX2_lengthOf yX2_lengthOf, .initialized RX2] := goodIn_r _ [4, 5, 6, 7] rfl (by decide +kernel)
set_option maxRecDepth 100000 in
theorem zg_zd_X11_lose_zd_X2_lengthOf_78_c : GoodIn zw_zd_X11_lose [.code yX2_lengthOf cX2_lengthOf 2 (some .int)] := goodIn_r _ [2] rfl (by decide +kernel)
set_option maxRecDepth 100000 in
theorem zg_zd_X11_lose_zd_X2_lengthOf_78_0 : GoodIn zw_zd_X11_lose zw_zd_X2_lengthOf_w0 := goodIn_r _ [3] rfl (by decide +kernel)
theorem zg_zd_X11_lose_zd_X2_lengthOf_78 : GoodIn zw_zd_X11_lose (wsV RX11 78 RX2 yX2_lengthOf zw_zd_X2_lengthOf) := goodIn_app zg_zd_X11_lose_zd_X2_lengthOf_78_a (goodIn_ca (a := (zw_zd_X2_lengthOf_w0)) (show GoodIn zw_zd_X11_lose (.code yX2_lengthOf cX2_lengthOf 2 (some .int) :: (zw_zd_X2_lengthOf_w0)) from goodIn_app zg_zd_X11_lose_zd_X2_lengthOf_78_c (zg_zd_X11_lose_zd_X2_lengthOf_78_0)) (fun w h => ⟨(fun _ h => List.mem_cons_of_mem _ (List.mem_append_right _ h)) w h, good_of_word (List.all_eq_true.mp zgw_X2 w h)⟩))
set_option maxRecDepth 100000 in
theorem zg_zd_X11_lose_zd_X2_renew_81_a : GoodIn zw_zd_X11_lose [.methodLink RX11 81 yX2_renew, .instanceMethod yX2_renew, .selects RX2 yX2_renew yX2_renew, .initialized RX2] := goodIn_r _ [17, 18, 19, 7] rfl (by decide +kernel)
set_option maxRecDepth 100000 in
theorem zg_zd_X11_lose_zd_X2_renew_81_c : GoodIn zw_zd_X11_lose [.code yX2_renew cX2_renew 3 none] := goodIn_r _ [8] rfl (by decide +kernel)
set_option maxRecDepth 100000 in
theorem zg_zd_X11_lose_zd_X2_renew_81_0 : GoodIn zw_zd_X11_lose zw_zd_X2_renew_w0 := goodIn_r _ [3, 9, 10, 11, 12, 13, 14, 15, 16] rfl (by decide +kernel)
theorem zg_zd_X11_lose_zd_X2_renew_81 : GoodIn zw_zd_X11_lose (wsV RX11 81 RX2 yX2_renew zw_zd_X2_renew) := goodIn_app zg_zd_X11_lose_zd_X2_renew_81_a (goodIn_ca (a := (zw_zd_X2_renew_w0)) (show GoodIn zw_zd_X11_lose (.code yX2_renew cX2_renew 3 none :: (zw_zd_X2_renew_w0)) from goodIn_app zg_zd_X11_lose_zd_X2_renew_81_c (zg_zd_X11_lose_zd_X2_renew_81_0)) (fun w h => ⟨(fun _ h => List.mem_cons_of_mem _ (List.mem_append_right _ h)) w h, good_of_word (List.all_eq_true.mp zgw_X2 w h)⟩))
set_option maxHeartbeats 16000000 in
set_option maxRecDepth 100000 in
theorem zd_X11_lose (l : Launch) (D : va_G) (cI cZ cP cF : Nat) (q : Nat → Nat → Nat) (S : CST) (a1 : Int32) (sz : Nat) (Post : CST → Int32 → Prop) (h : wp_X11_lose S a1 Post) : Met l yX11_lose zw_zd_X11_lose ({ frames := 3, cells := 0, slots := 0, locals := 68 }) (va_Pc [.ref (q 0 0), .int a1] (fun U => U.heap.size = sz ∧ va_P D vwCl (cW cI cZ cP cF q S) U.heap ∧ zF D cI cZ cP cF U ∧ va_D (fun _ => True) (cW cI cZ cP cF q S))) (va_Qi (fun r S' => Post S' r) (fun (S' : CST) t => va_P D vwCl (cW cI cZ cP cF q S') t.heap ∧ va_D (va_A (cW cI cZ cP cF q S) sz) (cW cI cZ cP cF q S') ∧ S'.2 = S.2) (va_A (cW cI cZ cP cF q S) sz)) 0 0 (va_A (cW cI cZ cP cF q S) sz) := by
  unfold wp_X11_lose at h
  refine Met.ofW (cc := cX11_lose) (maxL := 3) (ret := (some .int)) (by decide) rfl ?_
  intro p e s m args below meth c s₁ B hml hv
  obtain ⟨rfl, hsz, hP, hE, hD0⟩ := hv
  have hx := B.exec
  have hb := B.bytes
  have hr := B.returns
  have hts := atoms_spec (ws := zw_zd_X11_lose) B.pre
  have hown : s.vm.findClass RX11 = some m.cls := findClass_of_methodNamed B.named
  have hlocks := B.notSynchronized
  have hK := hE.k
  subst hsz
  have hD := hD0.self (sz := s.heap.size)
  generalize hAe : va_A (cW cI cZ cP cF q S) s.heap.size = A at hD ⊢
  have hA : ∀ q : Nat, s.heap.size ≤ q → A q := fun q h => by rw [← hAe]; exact Or.inr h
  have hN : S.2 = S.2 := rfl
  have hl := lv_entry ([.ref (q 0 0), .int a1]) (n := 3) (Nat.le_of_ble_eq_true rfl)
  rw [lg_entry_eq]
  generalize (lg_sl ([.ref (q 0 0), .int a1]) ++ List.replicate (3 - (lg_sl ([.ref (q 0 0), .int a1])).length) Slot.unset).toArray = ls at hl ⊢
  have hl : lv_has ls 3 [(0, .ref (q 0 0)), (1, .int a1)] := hl
  have key : ∀ (H : Heap) (locs : List Loc), va_P D vwCl (cW cI cZ cP cF q S) H → va_S A s.heap H locs → W p l e (headSpec zw_zd_X11_lose ({ frames := 3, cells := 0, slots := 0, locals := 68 })).room s m ([.ref (q 0 0), .int a1] : List Value).toArray below meth c H locs 0 0 (MQ below (va_Qi (fun r S' => Post S' r) (fun (S' : CST) t => va_P D vwCl (cW cI cZ cP cF q S') t.heap ∧ va_D A (cW cI cZ cP cF q S') ∧ S'.2 = S.2) A) ([.ref (q 0 0), .int a1] : List Value).toArray s 0 0 A) (F0 m 0 ls []) := by
    intro H locs hP hS
    refine lv_iload_n hx hb dX11_lose_0 rfl (lv_at hl 1 rfl) ?_
    refine lv_if_lt (tgt := 9) hx hb dX11_lose_1 (by decide) (fun c_1 => ?_) (fun c_1 => ?_)
    · have h := h.1 c_1
      refine lv_bipush (v := (-2)) hx hb dX11_lose_9 (by decide) ?_
      exact W.iret (v := (-2)) hx hb hr (fun t ht hW => ⟨⟨_, S, rfl, h, by rw [ht]; exact hP, hD, hN⟩, hS.F ht⟩) hS.2.2 dX11_lose_11
    · have h := h.2 c_1
      refine lv_iload_n hx hb dX11_lose_4 rfl (lv_at hl 1 rfl) ?_
      refine lv_iconst (v := 4) hx hb dX11_lose_5 (by decide) ?_
      refine lv_icmp_lt (tgt := 12) hx hb dX11_lose_6 (by decide) (fun c_2 => ?_) (fun c_2 => ?_)
      · have h := h.1 c_2
        refine lv_aload_n hx hb dX11_lose_12 rfl (lv_at hl 0 rfl) ?_
        obtain ⟨p_3, hp_3⟩ := cget_0 cI cZ cP cF q S
        have hi_3 : cin S 0 0 := Or.inl ⟨by decide, rfl⟩
        refine va_get (D := D) (ci := 11) (v := .ref (q 3 0)) (C := RX11) (T := TX11) (N := 4) hx hb hts (fun _ h => List.mem_cons_of_mem _ (List.mem_append_left _ (List.mem_append_right _ h))) hown hK hP p_3 hp_3 rfl 1 (by decide) (hts (.fieldLink RX11 22 "TemplateForge" "data" "LTemplateForge$Data;") (List.mem_of_getElem? (i := 1) rfl)) (fun _ h9 => h9) rfl dX11_lose_13 ?_
        refine lv_iload_n hx hb dX11_lose_16 rfl (lv_at hl 1 rfl) ?_
        obtain ⟨p_4, hp_4⟩ := cget_3 cI cZ cP cF q S
        have hi_4 : cin S 3 0 := Or.inl ⟨by decide, rfl⟩
        refine vp_callSi (va_Run.run (va_runV (As := [.int a1]) (rest := []) ⟨hx, hb, hml, hown, hts⟩ (zd_X2_lengthOf l D cI cZ cP cF q S a1  _ h) (cwV 1 hts zg_zd_X11_lose_zd_X2_lengthOf_78 rfl rfl rfl (by decide +kernel) ⟨Nat.le_of_ble_eq_true rfl, Nat.le_of_ble_eq_true rfl⟩) ⟨zCR, va_recv hK hP (ci := 2) (q0 := p_4) rfl hp_4, fun U hU hW => ⟨rfl, by rw [hU]; exact hP, hE.warm hW⟩⟩ rfl rfl hl.1 rfl (lv_room (Nat.le_of_ble_eq_true rfl)) dX11_lose_17 ⟨Nat.le_of_ble_eq_true rfl, Nat.le_of_ble_eq_true rfl⟩)) (fun r5 h => ?_)
        refine lv_istore_n (lv' := [(2, .int r5), (0, .ref (q 0 0)), (1, .int a1)]) hx hb dX11_lose_20 rfl hl (by decide) rfl (fun ls hl => ?_)
        refine lv_aload_n hx hb dX11_lose_21 rfl (lv_at hl 1 rfl) ?_
        obtain ⟨p_6, hp_6⟩ := cget_0 cI cZ cP cF q S
        have hi_6 : cin S 0 0 := Or.inl ⟨by decide, rfl⟩
        refine va_get (D := D) (ci := 11) (v := .ref (q 3 0)) (C := RX11) (T := TX11) (N := 4) hx hb hts (fun _ h => List.mem_cons_of_mem _ (List.mem_append_left _ (List.mem_append_right _ h))) hown hK hP p_6 hp_6 rfl 1 (by decide) (hts (.fieldLink RX11 22 "TemplateForge" "data" "LTemplateForge$Data;") (List.mem_of_getElem? (i := 1) rfl)) (fun _ h9 => h9) rfl dX11_lose_22 ?_
        refine lv_iload_n hx hb dX11_lose_25 rfl (lv_at hl 2 rfl) ?_
        refine lv_iconst (v := (-1)) hx hb dX11_lose_26 (by decide) ?_
        obtain ⟨p_7, hp_7⟩ := cget_3 cI cZ cP cF q S
        have hi_7 : cin S 3 0 := Or.inl ⟨by decide, rfl⟩
        have hFc := zm_free hD hS hA
        refine va_callv (va_runV (As := [.int a1, .int (-1)]) (rest := []) ⟨hx, hb, hml, hown, hts⟩ (zd_X2_renew l D cI cZ cP cF q S a1 (-1) H.size _ h) (cwV 2 hts zg_zd_X11_lose_zd_X2_renew_81 rfl rfl rfl (by decide +kernel) ⟨Nat.le_of_ble_eq_true rfl, Nat.le_of_ble_eq_true rfl⟩) ⟨zCW, va_recv hK hP (ci := 2) (q0 := p_7) rfl hp_7, fun U hU hW => ⟨rfl, by rw [hU], by rw [hU]; exact hP, hE.warm hW, hD.weaken (fun _ _ _ _ => trivial)⟩⟩ rfl rfl hl.1 rfl (lv_room (Nat.le_of_ble_eq_true rfl)) dX11_lose_27 ⟨Nat.le_of_ble_eq_true rfl, Nat.le_of_ble_eq_true rfl⟩) hS (fun q _ h => hFc q h) hFc (fun S8 t H locs ht hvm h hB hz1 hk1 hS => ?_)
        obtain ⟨hP, hD1, hN1⟩ := hB
        rw [ht] at hP
        have hD := hD1.weaken (fun k q _ hq => hFc q.1 hq)
        have hN := hN1.trans hN
        refine lv_iload_n hx hb dX11_lose_30 rfl (lv_at hl 0 rfl) ?_
        exact W.iret (v := r5) hx hb hr (fun t ht hW => ⟨⟨_, S8, rfl, h, by rw [ht]; exact hP, hD, hN⟩, hS.F ht⟩) hS.2.2 dX11_lose_31
      · have h := h.2 c_2
        refine lv_bipush (v := (-2)) hx hb dX11_lose_9 (by decide) ?_
        exact W.iret (v := (-2)) hx hb hr (fun t ht hW => ⟨⟨_, S, rfl, h, by rw [ht]; exact hP, hD, hN⟩, hS.F ht⟩) hS.2.2 dX11_lose_11
  exact key _ _ hP va_S.rf

def wp_X11_size (S : CST) (a1 : Int32) (Post : Int32 → Prop) : Prop :=
  (((a1 : Int32) < 0) → (Post (-2))) ∧ ((¬ ((a1 : Int32) < 0)) → ((((a1 : Int32) < 4) → (wp_X2_lengthOf S a1 (fun r5 => Post r5))) ∧ ((¬ ((a1 : Int32) < 4)) → (Post (-2)))))
def zw_zd_X11_size_w0 : List Cond := [.fieldLink RX11 22 "TemplateForge" "data" "LTemplateForge$Data;", .code yX2_lengthOf cX2_lengthOf 2 (some .int), .fieldLink RX2 15 "TemplateForge$Data" "lengths" "[I", .methodLink RX11 78 yX2_lengthOf, .instanceMethod yX2_lengthOf, .selects RX2 yX2_lengthOf yX2_lengthOf, .initialized RX2]
def zw_zd_X11_size : List Cond := .code yX11_size cX11_size 2 (some .int) :: ((zw_zd_X11_size_w0) ++ wsX110 ++ wsX20)
set_option maxRecDepth 100000 in
theorem zg_zd_X11_size_zd_X2_lengthOf_78_a : GoodIn zw_zd_X11_size [.methodLink RX11 78 yX2_lengthOf, .instanceMethod yX2_lengthOf, .selects RX2 yX2_lengthOf yX2_lengthOf, .initialized RX2] := goodIn_r _ [4, 5, 6, 7] rfl (by decide +kernel)
set_option maxRecDepth 100000 in
theorem zg_zd_X11_size_zd_X2_lengthOf_78_c : GoodIn zw_zd_X11_size [.code yX2_lengthOf cX2_lengthOf 2 (some .int)] := goodIn_r _ [2] rfl (by decide +kernel)
set_option maxRecDepth 100000 in
theorem zg_zd_X11_size_zd_X2_lengthOf_78_0 : GoodIn zw_zd_X11_size zw_zd_X2_lengthOf_w0 := goodIn_r _ [3] rfl (by decide +kernel)
theorem zg_zd_X11_size_zd_X2_lengthOf_78 : GoodIn zw_zd_X11_size (wsV RX11 78 RX2 yX2_lengthOf zw_zd_X2_lengthOf) := goodIn_app zg_zd_X11_size_zd_X2_lengthOf_78_a (goodIn_ca (a := (zw_zd_X2_lengthOf_w0)) (show GoodIn zw_zd_X11_size (.code yX2_lengthOf cX2_lengthOf 2 (some .int) :: (zw_zd_X2_lengthOf_w0)) from goodIn_app zg_zd_X11_size_zd_X2_lengthOf_78_c (zg_zd_X11_size_zd_X2_lengthOf_78_0)) (fun w h => ⟨(fun _ h => List.mem_cons_of_mem _ (List.mem_append_right _ h)) w h, good_of_word (List.all_eq_true.mp zgw_X2 w h)⟩))
set_option maxHeartbeats 16000000 in
set_option maxRecDepth 100000 in
theorem zd_X11_size (l : Launch) (D : va_G) (cI cZ cP cF : Nat) (q : Nat → Nat → Nat) (S : CST) (a1 : Int32) (Post : Int32 → Prop) (h : wp_X11_size S a1 Post) : Met l yX11_size zw_zd_X11_size ({ frames := 1, cells := 0, slots := 0, locals := 21 }) (va_Pc [.ref (q 0 0), .int a1] (fun U => va_P D vwCl (cW cI cZ cP cF q S) U.heap ∧ zF D cI cZ cP cF U)) (vp_Si Post) 0 0 (fun _ => False) := by
  unfold wp_X11_size at h
  refine Met.ofW (cc := cX11_size) (maxL := 2) (ret := (some .int)) (by decide) rfl ?_
  intro p e s m args below meth c s₁ B hml hv
  obtain ⟨rfl, hP, hE⟩ := hv
  have hx := B.exec
  have hb := B.bytes
  have hr := B.returns
  have hts := atoms_spec (ws := zw_zd_X11_size) B.pre
  have hown : s.vm.findClass RX11 = some m.cls := findClass_of_methodNamed B.named
  have hlocks := B.notSynchronized
  have hK := hE.k
  have hl := lv_entry ([.ref (q 0 0), .int a1]) (n := 2) (Nat.le_of_ble_eq_true rfl)
  rw [lg_entry_eq]
  generalize (lg_sl ([.ref (q 0 0), .int a1]) ++ List.replicate (2 - (lg_sl ([.ref (q 0 0), .int a1])).length) Slot.unset).toArray = ls at hl ⊢
  have hl : lv_has ls 2 [(0, .ref (q 0 0)), (1, .int a1)] := hl
  refine lv_iload_n hx hb dX11_size_0 rfl (lv_at hl 1 rfl) ?_
  refine lv_if_lt (tgt := 9) hx hb dX11_size_1 (by decide) (fun c_1 => ?_) (fun c_1 => ?_)
  · have h := h.1 c_1
    refine lv_bipush (v := (-2)) hx hb dX11_size_9 (by decide) ?_
    refine lv_goto (tgt := 22) hx hb dX11_size_11 (by decide) ?_
    exact W.iret (v := (-2)) hx hb hr (fun t ht hW => ⟨_, rfl, h, ht⟩) (fun q h => by cases h) dX11_size_22
  · have h := h.2 c_1
    refine lv_iload_n hx hb dX11_size_4 rfl (lv_at hl 1 rfl) ?_
    refine lv_iconst (v := 4) hx hb dX11_size_5 (by decide) ?_
    refine lv_icmp_lt (tgt := 14) hx hb dX11_size_6 (by decide) (fun c_2 => ?_) (fun c_2 => ?_)
    · have h := h.1 c_2
      refine lv_aload_n hx hb dX11_size_14 rfl (lv_at hl 0 rfl) ?_
      obtain ⟨p_3, hp_3⟩ := cget_0 cI cZ cP cF q S
      have hi_3 : cin S 0 0 := Or.inl ⟨by decide, rfl⟩
      refine va_get (D := D) (ci := 11) (v := .ref (q 3 0)) (C := RX11) (T := TX11) (N := 4) hx hb hts (fun _ h => List.mem_cons_of_mem _ (List.mem_append_left _ (List.mem_append_right _ h))) hown hK hP p_3 hp_3 rfl 1 (by decide) (hts (.fieldLink RX11 22 "TemplateForge" "data" "LTemplateForge$Data;") (List.mem_of_getElem? (i := 1) rfl)) (fun _ h9 => h9) rfl dX11_size_15 ?_
      refine lv_iload_n hx hb dX11_size_18 rfl (lv_at hl 1 rfl) ?_
      obtain ⟨p_4, hp_4⟩ := cget_3 cI cZ cP cF q S
      have hi_4 : cin S 3 0 := Or.inl ⟨by decide, rfl⟩
      refine vp_callSi (va_Run.run (va_runV (As := [.int a1]) (rest := []) ⟨hx, hb, hml, hown, hts⟩ (zd_X2_lengthOf l D cI cZ cP cF q S a1  _ h) (cwV 1 hts zg_zd_X11_size_zd_X2_lengthOf_78 rfl rfl rfl (by decide +kernel) ⟨Nat.le_of_ble_eq_true rfl, Nat.le_of_ble_eq_true rfl⟩) ⟨zCR, va_recv hK hP (ci := 2) (q0 := p_4) rfl hp_4, fun U hU hW => ⟨rfl, by rw [hU]; exact hP, hE.warm hW⟩⟩ rfl rfl hl.1 rfl (lv_room (Nat.le_of_ble_eq_true rfl)) dX11_size_19 ⟨Nat.le_of_ble_eq_true rfl, Nat.le_of_ble_eq_true rfl⟩)) (fun r5 h => ?_)
      exact W.iret (v := r5) hx hb hr (fun t ht hW => ⟨_, rfl, h, ht⟩) (fun q h => by cases h) dX11_size_22
    · have h := h.2 c_2
      refine lv_bipush (v := (-2)) hx hb dX11_size_9 (by decide) ?_
      refine lv_goto (tgt := 22) hx hb dX11_size_11 (by decide) ?_
      exact W.iret (v := (-2)) hx hb hr (fun t ht hW => ⟨_, rfl, h, ht⟩) (fun q h => by cases h) dX11_size_22

def wp_X11_item (S : CST) (a1 : Int32) (a2 : Int32) (Post : Int32 → Prop) : Prop :=
  wp_X2_itemOf S a1 a2 (fun r3 => Post r3)
def zw_zd_X11_item_w0 : List Cond := [.fieldLink RX11 22 "TemplateForge" "data" "LTemplateForge$Data;", .code yX2_itemOf cX2_itemOf 3 (some .int), .code yX2_lengthOf cX2_lengthOf 2 (some .int), .fieldLink RX2 15 "TemplateForge$Data" "lengths" "[I", .methodLink RX2 30 yX2_lengthOf, .instanceMethod yX2_lengthOf, .selects RX2 yX2_lengthOf yX2_lengthOf, .initialized RX2, .fieldLink RX2 18 "TemplateForge$Data" "items" "[I", .methodLink RX11 84 yX2_itemOf, .instanceMethod yX2_itemOf, .selects RX2 yX2_itemOf yX2_itemOf]
def zw_zd_X11_item : List Cond := .code yX11_item cX11_item 3 (some .int) :: ((zw_zd_X11_item_w0) ++ wsX110 ++ wsX20)
set_option maxRecDepth 100000 in
theorem zg_zd_X11_item_zd_X2_itemOf_84_a : GoodIn zw_zd_X11_item [.methodLink RX11 84 yX2_itemOf, .instanceMethod yX2_itemOf, .selects RX2 yX2_itemOf yX2_itemOf, .initialized RX2] := goodIn_r _ [10, 11, 12, 8] rfl (by decide +kernel)
set_option maxRecDepth 100000 in
theorem zg_zd_X11_item_zd_X2_itemOf_84_c : GoodIn zw_zd_X11_item [.code yX2_itemOf cX2_itemOf 3 (some .int)] := goodIn_r _ [2] rfl (by decide +kernel)
set_option maxRecDepth 100000 in
theorem zg_zd_X11_item_zd_X2_itemOf_84_0 : GoodIn zw_zd_X11_item zw_zd_X2_itemOf_w0 := goodIn_r _ [3, 4, 5, 6, 7, 8, 9] rfl (by decide +kernel)
theorem zg_zd_X11_item_zd_X2_itemOf_84 : GoodIn zw_zd_X11_item (wsV RX11 84 RX2 yX2_itemOf zw_zd_X2_itemOf) := goodIn_app zg_zd_X11_item_zd_X2_itemOf_84_a (goodIn_ca (a := (zw_zd_X2_itemOf_w0)) (show GoodIn zw_zd_X11_item (.code yX2_itemOf cX2_itemOf 3 (some .int) :: (zw_zd_X2_itemOf_w0)) from goodIn_app zg_zd_X11_item_zd_X2_itemOf_84_c (zg_zd_X11_item_zd_X2_itemOf_84_0)) (fun w h => ⟨(fun _ h => List.mem_cons_of_mem _ (List.mem_append_right _ h)) w h, good_of_word (List.all_eq_true.mp zgw_X2 w h)⟩))
set_option maxHeartbeats 16000000 in
set_option maxRecDepth 100000 in
theorem zd_X11_item (l : Launch) (D : va_G) (cI cZ cP cF : Nat) (q : Nat → Nat → Nat) (S : CST) (a1 : Int32) (a2 : Int32) (Post : Int32 → Prop) (h : wp_X11_item S a1 a2 Post) : Met l yX11_item zw_zd_X11_item ({ frames := 2, cells := 0, slots := 0, locals := 43 }) (va_Pc [.ref (q 0 0), .int a1, .int a2] (fun U => va_P D vwCl (cW cI cZ cP cF q S) U.heap ∧ zF D cI cZ cP cF U)) (vp_Si Post) 0 0 (fun _ => False) := by
  unfold wp_X11_item at h
  refine Met.ofW (cc := cX11_item) (maxL := 3) (ret := (some .int)) (by decide) rfl ?_
  intro p e s m args below meth c s₁ B hml hv
  obtain ⟨rfl, hP, hE⟩ := hv
  have hx := B.exec
  have hb := B.bytes
  have hr := B.returns
  have hts := atoms_spec (ws := zw_zd_X11_item) B.pre
  have hown : s.vm.findClass RX11 = some m.cls := findClass_of_methodNamed B.named
  have hlocks := B.notSynchronized
  have hK := hE.k
  have hl := lv_entry ([.ref (q 0 0), .int a1, .int a2]) (n := 3) (Nat.le_of_ble_eq_true rfl)
  rw [lg_entry_eq]
  generalize (lg_sl ([.ref (q 0 0), .int a1, .int a2]) ++ List.replicate (3 - (lg_sl ([.ref (q 0 0), .int a1, .int a2])).length) Slot.unset).toArray = ls at hl ⊢
  have hl : lv_has ls 3 [(0, .ref (q 0 0)), (1, .int a1), (2, .int a2)] := hl
  refine lv_aload_n hx hb dX11_item_0 rfl (lv_at hl 0 rfl) ?_
  obtain ⟨p_1, hp_1⟩ := cget_0 cI cZ cP cF q S
  have hi_1 : cin S 0 0 := Or.inl ⟨by decide, rfl⟩
  refine va_get (D := D) (ci := 11) (v := .ref (q 3 0)) (C := RX11) (T := TX11) (N := 4) hx hb hts (fun _ h => List.mem_cons_of_mem _ (List.mem_append_left _ (List.mem_append_right _ h))) hown hK hP p_1 hp_1 rfl 1 (by decide) (hts (.fieldLink RX11 22 "TemplateForge" "data" "LTemplateForge$Data;") (List.mem_of_getElem? (i := 1) rfl)) (fun _ h9 => h9) rfl dX11_item_1 ?_
  refine lv_iload_n hx hb dX11_item_4 rfl (lv_at hl 1 rfl) ?_
  refine lv_iload_n hx hb dX11_item_5 rfl (lv_at hl 2 rfl) ?_
  obtain ⟨p_2, hp_2⟩ := cget_3 cI cZ cP cF q S
  have hi_2 : cin S 3 0 := Or.inl ⟨by decide, rfl⟩
  refine vp_callSi (va_Run.run (va_runV (As := [.int a1, .int a2]) (rest := []) ⟨hx, hb, hml, hown, hts⟩ (zd_X2_itemOf l D cI cZ cP cF q S a1 a2  _ h) (cwV 2 hts zg_zd_X11_item_zd_X2_itemOf_84 rfl rfl rfl (by decide +kernel) ⟨Nat.le_of_ble_eq_true rfl, Nat.le_of_ble_eq_true rfl⟩) ⟨zCR, va_recv hK hP (ci := 2) (q0 := p_2) rfl hp_2, fun U hU hW => ⟨rfl, by rw [hU]; exact hP, hE.warm hW⟩⟩ rfl rfl hl.1 rfl (lv_room (Nat.le_of_ble_eq_true rfl)) dX11_item_6 ⟨Nat.le_of_ble_eq_true rfl, Nat.le_of_ble_eq_true rfl⟩)) (fun r3 h => ?_)
  exact W.iret (v := r3) hx hb hr (fun t ht hW => ⟨_, rfl, h, ht⟩) (fun q h => by cases h) dX11_item_9

def wp_X11_answer (S : CST) (Post : Int32 → Prop) : Prop :=
  Post (cv S 205 0 0)
def zw_zd_X11_answer_w0 : List Cond := [.fieldLink RX11 40 "TemplateForge" "machine" "LTemplateForge$Machine;", .fieldLink RX11 88 "TemplateForge$Machine" "tally" "LTemplateForge$Tally;", .fieldLink RX11 101 "TemplateForge$Tally" "returned" "I"]
def zw_zd_X11_answer : List Cond := .code yX11_answer cX11_answer 1 (some .int) :: ((zw_zd_X11_answer_w0) ++ wsX110 ++ wsX70 ++ wsX100)
set_option maxHeartbeats 16000000 in
set_option maxRecDepth 100000 in
theorem zd_X11_answer (l : Launch) (D : va_G) (cI cZ cP cF : Nat) (q : Nat → Nat → Nat) (S : CST) (Post : Int32 → Prop) (h : wp_X11_answer S Post) : Met l yX11_answer zw_zd_X11_answer ({ frames := 0, cells := 0, slots := 0, locals := 0 }) (va_Pc [.ref (q 0 0)] (fun U => va_P D vwCl (cW cI cZ cP cF q S) U.heap ∧ zF D cI cZ cP cF U)) (vp_Si Post) 0 0 (fun _ => False) := by
  unfold wp_X11_answer at h
  refine Met.ofW (cc := cX11_answer) (maxL := 1) (ret := (some .int)) (by decide) rfl ?_
  intro p e s m args below meth c s₁ B hml hv
  obtain ⟨rfl, hP, hE⟩ := hv
  have hx := B.exec
  have hb := B.bytes
  have hr := B.returns
  have hts := atoms_spec (ws := zw_zd_X11_answer) B.pre
  have hown : s.vm.findClass RX11 = some m.cls := findClass_of_methodNamed B.named
  have hlocks := B.notSynchronized
  have hK := hE.k
  have hl := lv_entry ([.ref (q 0 0)]) (n := 1) (Nat.le_of_ble_eq_true rfl)
  rw [lg_entry_eq]
  generalize (lg_sl ([.ref (q 0 0)]) ++ List.replicate (1 - (lg_sl ([.ref (q 0 0)])).length) Slot.unset).toArray = ls at hl ⊢
  have hl : lv_has ls 1 [(0, .ref (q 0 0))] := hl
  refine lv_aload_n hx hb dX11_answer_0 rfl (lv_at hl 0 rfl) ?_
  obtain ⟨p_1, hp_1⟩ := cget_0 cI cZ cP cF q S
  have hi_1 : cin S 0 0 := Or.inl ⟨by decide, rfl⟩
  refine va_get (D := D) (ci := 11) (v := .ref (q 12 0)) (C := RX11) (T := TX11) (N := 4) hx hb hts (fun _ h => List.mem_cons_of_mem _ (List.mem_append_left _ (List.mem_append_left _ (List.mem_append_right _ h)))) hown hK hP p_1 hp_1 rfl 3 (by decide) (hts (.fieldLink RX11 40 "TemplateForge" "machine" "LTemplateForge$Machine;") (List.mem_of_getElem? (i := 1) rfl)) (fun _ h9 => h9) rfl dX11_answer_1 ?_
  obtain ⟨p_2, hp_2⟩ := cget_12 cI cZ cP cF q S
  have hi_2 : cin S 12 0 := Or.inl ⟨by decide, rfl⟩
  refine va_get (D := D) (ci := 7) (v := .ref (q 20 0)) (C := RX7) (T := TX7) (N := 10) hx hb hts (fun _ h => List.mem_cons_of_mem _ (List.mem_append_left _ (List.mem_append_right _ h))) hown hK hP p_2 hp_2 rfl 3 (by decide) (hts (.fieldLink RX11 88 "TemplateForge$Machine" "tally" "LTemplateForge$Tally;") (List.mem_of_getElem? (i := 2) rfl)) (fun _ h9 => h9) rfl dX11_answer_4 ?_
  obtain ⟨p_3, hp_3⟩ := cget_20 cI cZ cP cF q S
  have hi_3 : cin S 20 0 := Or.inl ⟨by decide, rfl⟩
  refine va_get (D := D) (ci := 10) (v := .int (cv S 205 0 0)) (C := RX10) (T := TX10) (N := 7) hx hb hts (fun _ h => List.mem_cons_of_mem _ (List.mem_append_right _ h)) hown hK hP p_3 hp_3 rfl 5 (by decide) (hts (.fieldLink RX11 101 "TemplateForge$Tally" "returned" "I") (List.mem_of_getElem? (i := 3) rfl)) (fun _ h9 => h9) rfl dX11_answer_7 ?_
  exact W.iret (v := cv S 205 0 0) hx hb hr (fun t ht hW => ⟨_, rfl, h, ht⟩) (fun q h => by cases h) dX11_answer_10

def wp_X11_trap (S : CST) (a1 : Int32) (Post : Int32 → Prop) : Prop :=
  wp_X10_ofTrap S a1 (fun r4 => Post r4)
def zw_zd_X11_trap_w0 : List Cond := [.fieldLink RX11 40 "TemplateForge" "machine" "LTemplateForge$Machine;", .fieldLink RX11 88 "TemplateForge$Machine" "tally" "LTemplateForge$Tally;", .code yX10_ofTrap cX10_ofTrap 2 (some .int), .fieldLink RX10 9 "TemplateForge$Tally" "trap" "[I", .methodLink RX11 104 yX10_ofTrap, .instanceMethod yX10_ofTrap, .selects RX10 yX10_ofTrap yX10_ofTrap, .initialized RX10]
def zw_zd_X11_trap : List Cond := .code yX11_trap cX11_trap 2 (some .int) :: ((zw_zd_X11_trap_w0) ++ wsX110 ++ wsX70 ++ wsX100)
set_option maxRecDepth 100000 in
theorem zg_zd_X11_trap_zd_X10_ofTrap_104_a : GoodIn zw_zd_X11_trap [.methodLink RX11 104 yX10_ofTrap, .instanceMethod yX10_ofTrap, .selects RX10 yX10_ofTrap yX10_ofTrap, .initialized RX10] := goodIn_r _ [5, 6, 7, 8] rfl (by decide +kernel)
set_option maxRecDepth 100000 in
theorem zg_zd_X11_trap_zd_X10_ofTrap_104_c : GoodIn zw_zd_X11_trap [.code yX10_ofTrap cX10_ofTrap 2 (some .int)] := goodIn_r _ [3] rfl (by decide +kernel)
set_option maxRecDepth 100000 in
theorem zg_zd_X11_trap_zd_X10_ofTrap_104_0 : GoodIn zw_zd_X11_trap zw_zd_X10_ofTrap_w0 := goodIn_r _ [4] rfl (by decide +kernel)
theorem zg_zd_X11_trap_zd_X10_ofTrap_104 : GoodIn zw_zd_X11_trap (wsV RX11 104 RX10 yX10_ofTrap zw_zd_X10_ofTrap) := goodIn_app zg_zd_X11_trap_zd_X10_ofTrap_104_a (goodIn_ca (a := (zw_zd_X10_ofTrap_w0)) (show GoodIn zw_zd_X11_trap (.code yX10_ofTrap cX10_ofTrap 2 (some .int) :: (zw_zd_X10_ofTrap_w0)) from goodIn_app zg_zd_X11_trap_zd_X10_ofTrap_104_c (zg_zd_X11_trap_zd_X10_ofTrap_104_0)) (fun w h => ⟨(fun _ h => List.mem_cons_of_mem _ (List.mem_append_right _ h)) w h, good_of_word (List.all_eq_true.mp zgw_X10 w h)⟩))
set_option maxHeartbeats 16000000 in
set_option maxRecDepth 100000 in
theorem zd_X11_trap (l : Launch) (D : va_G) (cI cZ cP cF : Nat) (q : Nat → Nat → Nat) (S : CST) (a1 : Int32) (Post : Int32 → Prop) (h : wp_X11_trap S a1 Post) : Met l yX11_trap zw_zd_X11_trap ({ frames := 1, cells := 0, slots := 0, locals := 21 }) (va_Pc [.ref (q 0 0), .int a1] (fun U => va_P D vwCl (cW cI cZ cP cF q S) U.heap ∧ zF D cI cZ cP cF U)) (vp_Si Post) 0 0 (fun _ => False) := by
  unfold wp_X11_trap at h
  refine Met.ofW (cc := cX11_trap) (maxL := 2) (ret := (some .int)) (by decide) rfl ?_
  intro p e s m args below meth c s₁ B hml hv
  obtain ⟨rfl, hP, hE⟩ := hv
  have hx := B.exec
  have hb := B.bytes
  have hr := B.returns
  have hts := atoms_spec (ws := zw_zd_X11_trap) B.pre
  have hown : s.vm.findClass RX11 = some m.cls := findClass_of_methodNamed B.named
  have hlocks := B.notSynchronized
  have hK := hE.k
  have hl := lv_entry ([.ref (q 0 0), .int a1]) (n := 2) (Nat.le_of_ble_eq_true rfl)
  rw [lg_entry_eq]
  generalize (lg_sl ([.ref (q 0 0), .int a1]) ++ List.replicate (2 - (lg_sl ([.ref (q 0 0), .int a1])).length) Slot.unset).toArray = ls at hl ⊢
  have hl : lv_has ls 2 [(0, .ref (q 0 0)), (1, .int a1)] := hl
  refine lv_aload_n hx hb dX11_trap_0 rfl (lv_at hl 0 rfl) ?_
  obtain ⟨p_1, hp_1⟩ := cget_0 cI cZ cP cF q S
  have hi_1 : cin S 0 0 := Or.inl ⟨by decide, rfl⟩
  refine va_get (D := D) (ci := 11) (v := .ref (q 12 0)) (C := RX11) (T := TX11) (N := 4) hx hb hts (fun _ h => List.mem_cons_of_mem _ (List.mem_append_left _ (List.mem_append_left _ (List.mem_append_right _ h)))) hown hK hP p_1 hp_1 rfl 3 (by decide) (hts (.fieldLink RX11 40 "TemplateForge" "machine" "LTemplateForge$Machine;") (List.mem_of_getElem? (i := 1) rfl)) (fun _ h9 => h9) rfl dX11_trap_1 ?_
  obtain ⟨p_2, hp_2⟩ := cget_12 cI cZ cP cF q S
  have hi_2 : cin S 12 0 := Or.inl ⟨by decide, rfl⟩
  refine va_get (D := D) (ci := 7) (v := .ref (q 20 0)) (C := RX7) (T := TX7) (N := 10) hx hb hts (fun _ h => List.mem_cons_of_mem _ (List.mem_append_left _ (List.mem_append_right _ h))) hown hK hP p_2 hp_2 rfl 3 (by decide) (hts (.fieldLink RX11 88 "TemplateForge$Machine" "tally" "LTemplateForge$Tally;") (List.mem_of_getElem? (i := 2) rfl)) (fun _ h9 => h9) rfl dX11_trap_4 ?_
  refine lv_iload_n hx hb dX11_trap_7 rfl (lv_at hl 1 rfl) ?_
  obtain ⟨p_3, hp_3⟩ := cget_20 cI cZ cP cF q S
  have hi_3 : cin S 20 0 := Or.inl ⟨by decide, rfl⟩
  refine vp_callSi (va_Run.run (va_runV (As := [.int a1]) (rest := []) ⟨hx, hb, hml, hown, hts⟩ (zd_X10_ofTrap l D cI cZ cP cF q S a1  _ h) (cwV 1 hts zg_zd_X11_trap_zd_X10_ofTrap_104 rfl rfl rfl (by decide +kernel) ⟨Nat.le_of_ble_eq_true rfl, Nat.le_of_ble_eq_true rfl⟩) ⟨zCR, va_recv hK hP (ci := 10) (q0 := p_3) rfl hp_3, fun U hU hW => ⟨rfl, by rw [hU]; exact hP, hE.warm hW⟩⟩ rfl rfl hl.1 rfl (lv_room (Nat.le_of_ble_eq_true rfl)) dX11_trap_8 ⟨Nat.le_of_ble_eq_true rfl, Nat.le_of_ble_eq_true rfl⟩)) (fun r4 h => ?_)
  exact W.iret (v := r4) hx hb hr (fun t ht hW => ⟨_, rfl, h, ht⟩) (fun q h => by cases h) dX11_trap_11

def wp_X11_tellOf (S : CST) (i0 : Nat) (a1 : Int32) (Post : Int32 → Prop) : Prop :=
  cin S 24 i0 ∧ (((a1 : Int32).toInt < 0 ∨ 7 < (a1 : Int32).toInt → (Post (-2))) ∧ (a1 = 0 → (cin S 28 i0 ∧ (((((cv S 280 i0 0) : Int32) = 0) → (Post 0)) ∧ ((¬ (((cv S 280 i0 0) : Int32) = 0)) → (Post 1))))) ∧ (a1 = 1 → (cin S 28 i0 ∧ (Post (cv S 282 i0 0)))) ∧ (a1 = 2 → (cin S 28 i0 ∧ (Post (cv S 283 i0 0)))) ∧ (a1 = 3 → (cin S 28 i0 ∧ (Post (cv S 284 i0 0)))) ∧ (a1 = 4 → (cin S 28 i0 ∧ (Post (cv S 285 i0 0)))) ∧ (a1 = 5 → (cin S 28 i0 ∧ (((cv S 281 i0 0) < 0) → (Post 0)) ∧ ((¬ ((cv S 281 i0 0) < 0)) → (cin S 28 i0 ∧ (((cv S 281 i0 0) < 0) → (False)) ∧ ((¬ ((cv S 281 i0 0) < 0)) → (cin S 32 (((cv S 281 i0 0) : Int32).toNatClampNeg) ∧ (wp_X1_parts S (((cv S 281 i0 0) : Int32).toNatClampNeg) (fun r13 => Post r13)))))))) ∧ (a1 = 6 → (cin S 24 i0 ∧ (Post (cv S 247 i0 0)))) ∧ (a1 = 7 → (cin S 24 i0 ∧ (Post (cv S 248 i0 0)))))
def zw_zd_X11_tellOf_w0 : List Cond := [.fieldLink RX11 111 "TemplateForge$Program" "heat" "LTemplateForge$Heat;", .fieldLink RX11 165 "TemplateForge$Heat" "hasCode" "Z", .fieldLink RX11 169 "TemplateForge$Heat" "counted" "I", .fieldLink RX11 172 "TemplateForge$Heat" "made" "I", .fieldLink RX11 175 "TemplateForge$Heat" "failed" "I", .fieldLink RX11 176 "TemplateForge$Heat" "ran" "I", .fieldLink RX11 115 "TemplateForge$Heat" "latest" "LTemplateForge$Code;", .code yX1_parts cX1_parts 1 (some .int), .fieldLink RX1 18 "TemplateForge$Code" "cells" "[I", .methodLink RX11 179 yX1_parts, .instanceMethod yX1_parts, .selects RX1 yX1_parts yX1_parts, .initialized RX1, .fieldLink RX11 183 "TemplateForge$Program" "length" "I", .fieldLink RX11 186 "TemplateForge$Program" "deepest" "I"]
def zw_zd_X11_tellOf : List Cond := .code yX11_tellOf cX11_tellOf 3 (some .int) :: ((zw_zd_X11_tellOf_w0) ++ wsX80 ++ wsX50 ++ wsX10)
set_option maxRecDepth 100000 in
theorem zg_zd_X11_tellOf_zd_X1_parts_179_a : GoodIn zw_zd_X11_tellOf [.methodLink RX11 179 yX1_parts, .instanceMethod yX1_parts, .selects RX1 yX1_parts yX1_parts, .initialized RX1] := goodIn_r _ [10, 11, 12, 13] rfl (by decide +kernel)
set_option maxRecDepth 100000 in
theorem zg_zd_X11_tellOf_zd_X1_parts_179_c : GoodIn zw_zd_X11_tellOf [.code yX1_parts cX1_parts 1 (some .int)] := goodIn_r _ [8] rfl (by decide +kernel)
set_option maxRecDepth 100000 in
theorem zg_zd_X11_tellOf_zd_X1_parts_179_0 : GoodIn zw_zd_X11_tellOf zw_zd_X1_parts_w0 := goodIn_r _ [9] rfl (by decide +kernel)
theorem zg_zd_X11_tellOf_zd_X1_parts_179 : GoodIn zw_zd_X11_tellOf (wsV RX11 179 RX1 yX1_parts zw_zd_X1_parts) := goodIn_app zg_zd_X11_tellOf_zd_X1_parts_179_a (goodIn_ca (a := (zw_zd_X1_parts_w0)) (show GoodIn zw_zd_X11_tellOf (.code yX1_parts cX1_parts 1 (some .int) :: (zw_zd_X1_parts_w0)) from goodIn_app zg_zd_X11_tellOf_zd_X1_parts_179_c (zg_zd_X11_tellOf_zd_X1_parts_179_0)) (fun w h => ⟨(fun _ h => List.mem_cons_of_mem _ (List.mem_append_right _ h)) w h, good_of_word (List.all_eq_true.mp zgw_X1 w h)⟩))
set_option maxHeartbeats 16000000 in
set_option maxRecDepth 100000 in
theorem zd_X11_tellOf (l : Launch) (D : va_G) (cI cZ cP cF : Nat) (q : Nat → Nat → Nat) (S : CST) (i0 : Nat) (a1 : Int32) (Post : Int32 → Prop) (h : wp_X11_tellOf S i0 a1 Post) : Met l yX11_tellOf zw_zd_X11_tellOf ({ frames := 1, cells := 0, slots := 0, locals := 20 }) (va_Pc [.ref (q 24 i0), .int a1] (fun U => va_P D vwCl (cW cI cZ cP cF q S) U.heap ∧ zF D cI cZ cP cF U)) (vp_Si Post) 0 0 (fun _ => False) := by
  unfold wp_X11_tellOf at h
  refine Met.ofW (cc := cX11_tellOf) (maxL := 3) (ret := (some .int)) (by decide) rfl ?_
  intro p e s m args below meth c s₁ B hml hv
  obtain ⟨rfl, hP, hE⟩ := hv
  have hx := B.exec
  have hb := B.bytes
  have hr := B.returns
  have hts := atoms_spec (ws := zw_zd_X11_tellOf) B.pre
  have hown : s.vm.findClass RX11 = some m.cls := findClass_of_methodNamed B.named
  have hlocks := B.notSynchronized
  have hK := hE.k
  have hl := lv_entry ([.ref (q 24 i0), .int a1]) (n := 3) (Nat.le_of_ble_eq_true rfl)
  rw [lg_entry_eq]
  generalize (lg_sl ([.ref (q 24 i0), .int a1]) ++ List.replicate (3 - (lg_sl ([.ref (q 24 i0), .int a1])).length) Slot.unset).toArray = ls at hl ⊢
  have hl : lv_has ls 3 [(0, .ref (q 24 i0)), (1, .int a1)] := hl
  refine lv_aload_n hx hb dX11_tellOf_0 rfl (lv_at hl 0 rfl) ?_
  have hi_1 := h.1
  have h := h.2
  obtain ⟨p_1, hp_1⟩ := cget_24 cI cZ cP cF q S hi_1
  refine va_get (D := D) (ci := 8) (v := .ref (q 28 i0)) (C := RX8) (T := TX8) (N := 10) hx hb hts (fun _ h => List.mem_cons_of_mem _ (List.mem_append_left _ (List.mem_append_left _ (List.mem_append_right _ h)))) hown hK hP p_1 hp_1 rfl 3 (by decide) (hts (.fieldLink RX11 111 "TemplateForge$Program" "heat" "LTemplateForge$Heat;") (List.mem_of_getElem? (i := 1) rfl)) (fun _ h9 => h9) rfl dX11_tellOf_1 ?_
  refine lv_astore_n (lv' := [(2, .ref (q 28 i0)), (0, .ref (q 24 i0)), (1, .int a1)]) hx hb dX11_tellOf_4 rfl hl (by decide) rfl (fun ls hl => ?_)
  refine lv_iload_n hx hb dX11_tellOf_5 rfl (lv_at hl 2 rfl) ?_
  rcases zt_0_7 a1 with h_out | h_in | h_in | h_in | h_in | h_in | h_in | h_in | h_in
  · have h := h.1 h_out
    refine lv_tableOut (tgt := 114) hx hb dX11_tellOf_6 h_out (by decide) ?_
    refine lv_bipush (v := (-2)) hx hb dX11_tellOf_114 (by decide) ?_
    exact W.iret (v := (-2)) hx hb hr (fun t ht hW => ⟨_, rfl, h, ht⟩) (fun q h => by cases h) dX11_tellOf_116
  · have h := h.2.1 h_in
    refine lv_tableIn (off := 46) (tgt := 52) hx hb dX11_tellOf_6 (by rw [h_in]; decide) (by rw [h_in]; decide) (by rw [h_in]; decide) (by decide) ?_
    refine lv_aload_n hx hb dX11_tellOf_52 rfl (lv_at hl 0 rfl) ?_
    have hi_2 := h.1
    have h := h.2
    obtain ⟨p_2, hp_2⟩ := cget_28 cI cZ cP cF q S hi_2
    refine va_get (D := D) (ci := 5) (v := .int (cv S 280 i0 0)) (C := RX5) (T := TX5) (N := 9) hx hb hts (fun _ h => List.mem_cons_of_mem _ (List.mem_append_left _ (List.mem_append_right _ h))) hown hK hP p_2 hp_2 rfl 0 (by decide) (hts (.fieldLink RX11 165 "TemplateForge$Heat" "hasCode" "Z") (List.mem_of_getElem? (i := 2) rfl)) (fun _ h9 => h9) rfl dX11_tellOf_53 ?_
    refine lv_if_eq (tgt := 63) hx hb dX11_tellOf_56 (by decide) (fun c_3 => ?_) (fun c_3 => ?_)
    · have h := h.1 c_3
      refine lv_iconst (v := 0) hx hb dX11_tellOf_63 (by decide) ?_
      exact W.iret (v := 0) hx hb hr (fun t ht hW => ⟨_, rfl, h, ht⟩) (fun q h => by cases h) dX11_tellOf_64
    · have h := h.2 c_3
      refine lv_iconst (v := 1) hx hb dX11_tellOf_59 (by decide) ?_
      refine lv_goto (tgt := 64) hx hb dX11_tellOf_60 (by decide) ?_
      exact W.iret (v := 1) hx hb hr (fun t ht hW => ⟨_, rfl, h, ht⟩) (fun q h => by cases h) dX11_tellOf_64
  · have h := h.2.2.1 h_in
    refine lv_tableIn (off := 59) (tgt := 65) hx hb dX11_tellOf_6 (by rw [h_in]; decide) (by rw [h_in]; decide) (by rw [h_in]; decide) (by decide) ?_
    refine lv_aload_n hx hb dX11_tellOf_65 rfl (lv_at hl 0 rfl) ?_
    have hi_4 := h.1
    have h := h.2
    obtain ⟨p_4, hp_4⟩ := cget_28 cI cZ cP cF q S hi_4
    refine va_get (D := D) (ci := 5) (v := .int (cv S 282 i0 0)) (C := RX5) (T := TX5) (N := 9) hx hb hts (fun _ h => List.mem_cons_of_mem _ (List.mem_append_left _ (List.mem_append_right _ h))) hown hK hP p_4 hp_4 rfl 2 (by decide) (hts (.fieldLink RX11 169 "TemplateForge$Heat" "counted" "I") (List.mem_of_getElem? (i := 3) rfl)) (fun _ h9 => h9) rfl dX11_tellOf_66 ?_
    exact W.iret (v := cv S 282 i0 0) hx hb hr (fun t ht hW => ⟨_, rfl, h, ht⟩) (fun q h => by cases h) dX11_tellOf_69
  · have h := h.2.2.2.1 h_in
    refine lv_tableIn (off := 64) (tgt := 70) hx hb dX11_tellOf_6 (by rw [h_in]; decide) (by rw [h_in]; decide) (by rw [h_in]; decide) (by decide) ?_
    refine lv_aload_n hx hb dX11_tellOf_70 rfl (lv_at hl 0 rfl) ?_
    have hi_5 := h.1
    have h := h.2
    obtain ⟨p_5, hp_5⟩ := cget_28 cI cZ cP cF q S hi_5
    refine va_get (D := D) (ci := 5) (v := .int (cv S 283 i0 0)) (C := RX5) (T := TX5) (N := 9) hx hb hts (fun _ h => List.mem_cons_of_mem _ (List.mem_append_left _ (List.mem_append_right _ h))) hown hK hP p_5 hp_5 rfl 3 (by decide) (hts (.fieldLink RX11 172 "TemplateForge$Heat" "made" "I") (List.mem_of_getElem? (i := 4) rfl)) (fun _ h9 => h9) rfl dX11_tellOf_71 ?_
    exact W.iret (v := cv S 283 i0 0) hx hb hr (fun t ht hW => ⟨_, rfl, h, ht⟩) (fun q h => by cases h) dX11_tellOf_74
  · have h := h.2.2.2.2.1 h_in
    refine lv_tableIn (off := 69) (tgt := 75) hx hb dX11_tellOf_6 (by rw [h_in]; decide) (by rw [h_in]; decide) (by rw [h_in]; decide) (by decide) ?_
    refine lv_aload_n hx hb dX11_tellOf_75 rfl (lv_at hl 0 rfl) ?_
    have hi_6 := h.1
    have h := h.2
    obtain ⟨p_6, hp_6⟩ := cget_28 cI cZ cP cF q S hi_6
    refine va_get (D := D) (ci := 5) (v := .int (cv S 284 i0 0)) (C := RX5) (T := TX5) (N := 9) hx hb hts (fun _ h => List.mem_cons_of_mem _ (List.mem_append_left _ (List.mem_append_right _ h))) hown hK hP p_6 hp_6 rfl 4 (by decide) (hts (.fieldLink RX11 175 "TemplateForge$Heat" "failed" "I") (List.mem_of_getElem? (i := 5) rfl)) (fun _ h9 => h9) rfl dX11_tellOf_76 ?_
    exact W.iret (v := cv S 284 i0 0) hx hb hr (fun t ht hW => ⟨_, rfl, h, ht⟩) (fun q h => by cases h) dX11_tellOf_79
  · have h := h.2.2.2.2.2.1 h_in
    refine lv_tableIn (off := 74) (tgt := 80) hx hb dX11_tellOf_6 (by rw [h_in]; decide) (by rw [h_in]; decide) (by rw [h_in]; decide) (by decide) ?_
    refine lv_aload_n hx hb dX11_tellOf_80 rfl (lv_at hl 0 rfl) ?_
    have hi_7 := h.1
    have h := h.2
    obtain ⟨p_7, hp_7⟩ := cget_28 cI cZ cP cF q S hi_7
    refine va_get (D := D) (ci := 5) (v := .int (cv S 285 i0 0)) (C := RX5) (T := TX5) (N := 9) hx hb hts (fun _ h => List.mem_cons_of_mem _ (List.mem_append_left _ (List.mem_append_right _ h))) hown hK hP p_7 hp_7 rfl 5 (by decide) (hts (.fieldLink RX11 176 "TemplateForge$Heat" "ran" "I") (List.mem_of_getElem? (i := 6) rfl)) (fun _ h9 => h9) rfl dX11_tellOf_81 ?_
    exact W.iret (v := cv S 285 i0 0) hx hb hr (fun t ht hW => ⟨_, rfl, h, ht⟩) (fun q h => by cases h) dX11_tellOf_84
  · have h := h.2.2.2.2.2.2.1 h_in
    refine lv_tableIn (off := 79) (tgt := 85) hx hb dX11_tellOf_6 (by rw [h_in]; decide) (by rw [h_in]; decide) (by rw [h_in]; decide) (by decide) ?_
    refine lv_aload_n hx hb dX11_tellOf_85 rfl (lv_at hl 0 rfl) ?_
    have hi_8 := h.1
    have h := h.2
    obtain ⟨p_8, hp_8⟩ := cget_28 cI cZ cP cF q S hi_8
    by_cases hn_9 : (cv S 281 i0 0) < 0
    · have h := h.1 hn_9
      refine va_get (D := D) (ci := 5) (v := .null) (C := RX5) (T := TX5) (N := 9) hx hb hts (fun _ h => List.mem_cons_of_mem _ (List.mem_append_left _ (List.mem_append_right _ h))) hown hK hP p_8 hp_8 rfl 1 (by decide) (hts (.fieldLink RX11 115 "TemplateForge$Heat" "latest" "LTemplateForge$Code;") (List.mem_of_getElem? (i := 7) rfl)) (fun _ h9 => h9) (congrArg some (cn_neg hn_9)) dX11_tellOf_86 ?_
      refine lv_ifnonnullN hx hb dX11_tellOf_89 ?_
      refine lv_iconst (v := 0) hx hb dX11_tellOf_92 (by decide) ?_
      refine lv_goto (tgt := 103) hx hb dX11_tellOf_93 (by decide) ?_
      exact W.iret (v := 0) hx hb hr (fun t ht hW => ⟨_, rfl, h, ht⟩) (fun q h => by cases h) dX11_tellOf_103
    · have h := h.2 hn_9
      refine va_get (D := D) (ci := 5) (v := .ref (q 32 ((cv S 281 i0 0) : Int32).toNatClampNeg)) (C := RX5) (T := TX5) (N := 9) hx hb hts (fun _ h => List.mem_cons_of_mem _ (List.mem_append_left _ (List.mem_append_right _ h))) hown hK hP p_8 hp_8 rfl 1 (by decide) (hts (.fieldLink RX11 115 "TemplateForge$Heat" "latest" "LTemplateForge$Code;") (List.mem_of_getElem? (i := 7) rfl)) (fun _ h9 => h9) (congrArg some (cn_pos hn_9)) dX11_tellOf_86 ?_
      refine lv_ifnonnull (tgt := 96) hx hb dX11_tellOf_89 (by decide) ?_
      refine lv_aload_n hx hb dX11_tellOf_96 rfl (lv_at hl 0 rfl) ?_
      have hi_10 := h.1
      have h := h.2
      obtain ⟨p_10, hp_10⟩ := cget_28 cI cZ cP cF q S hi_10
      by_cases hn_11 : (cv S 281 i0 0) < 0
      · have h := h.1 hn_11
        refine va_get (D := D) (ci := 5) (v := .null) (C := RX5) (T := TX5) (N := 9) hx hb hts (fun _ h => List.mem_cons_of_mem _ (List.mem_append_left _ (List.mem_append_right _ h))) hown hK hP p_10 hp_10 rfl 1 (by decide) (hts (.fieldLink RX11 115 "TemplateForge$Heat" "latest" "LTemplateForge$Code;") (List.mem_of_getElem? (i := 7) rfl)) (fun _ h9 => h9) (congrArg some (cn_neg hn_11)) dX11_tellOf_97 ?_
        exact h.elim
      · have h := h.2 hn_11
        refine va_get (D := D) (ci := 5) (v := .ref (q 32 ((cv S 281 i0 0) : Int32).toNatClampNeg)) (C := RX5) (T := TX5) (N := 9) hx hb hts (fun _ h => List.mem_cons_of_mem _ (List.mem_append_left _ (List.mem_append_right _ h))) hown hK hP p_10 hp_10 rfl 1 (by decide) (hts (.fieldLink RX11 115 "TemplateForge$Heat" "latest" "LTemplateForge$Code;") (List.mem_of_getElem? (i := 7) rfl)) (fun _ h9 => h9) (congrArg some (cn_pos hn_11)) dX11_tellOf_97 ?_
        have hi_12 := h.1
        have h := h.2
        obtain ⟨p_12, hp_12⟩ := cget_32 cI cZ cP cF q S hi_12
        refine vp_callSi (va_Run.run (va_runV (As := []) (rest := []) ⟨hx, hb, hml, hown, hts⟩ (zd_X1_parts l D cI cZ cP cF q S (((cv S 281 i0 0) : Int32).toNatClampNeg)  _ h) (cwV 0 hts zg_zd_X11_tellOf_zd_X1_parts_179 rfl rfl rfl (by decide +kernel) ⟨Nat.le_of_ble_eq_true rfl, Nat.le_of_ble_eq_true rfl⟩) ⟨zCR, va_recv hK hP (ci := 1) (q0 := p_12) rfl hp_12, fun U hU hW => ⟨rfl, by rw [hU]; exact hP, hE.warm hW⟩⟩ rfl rfl hl.1 rfl (lv_room (Nat.le_of_ble_eq_true rfl)) dX11_tellOf_100 ⟨Nat.le_of_ble_eq_true rfl, Nat.le_of_ble_eq_true rfl⟩)) (fun r13 h => ?_)
        exact W.iret (v := r13) hx hb hr (fun t ht hW => ⟨_, rfl, h, ht⟩) (fun q h => by cases h) dX11_tellOf_103
  · have h := h.2.2.2.2.2.2.2.1 h_in
    refine lv_tableIn (off := 98) (tgt := 104) hx hb dX11_tellOf_6 (by rw [h_in]; decide) (by rw [h_in]; decide) (by rw [h_in]; decide) (by decide) ?_
    refine lv_aload_n hx hb dX11_tellOf_104 rfl (lv_at hl 1 rfl) ?_
    have hi_14 := h.1
    have h := h.2
    obtain ⟨p_14, hp_14⟩ := cget_24 cI cZ cP cF q S hi_14
    refine va_get (D := D) (ci := 8) (v := .int (cv S 247 i0 0)) (C := RX8) (T := TX8) (N := 10) hx hb hts (fun _ h => List.mem_cons_of_mem _ (List.mem_append_left _ (List.mem_append_left _ (List.mem_append_right _ h)))) hown hK hP p_14 hp_14 rfl 7 (by decide) (hts (.fieldLink RX11 183 "TemplateForge$Program" "length" "I") (List.mem_of_getElem? (i := 14) rfl)) (fun _ h9 => h9) rfl dX11_tellOf_105 ?_
    exact W.iret (v := cv S 247 i0 0) hx hb hr (fun t ht hW => ⟨_, rfl, h, ht⟩) (fun q h => by cases h) dX11_tellOf_108
  · have h := h.2.2.2.2.2.2.2.2 h_in
    refine lv_tableIn (off := 103) (tgt := 109) hx hb dX11_tellOf_6 (by rw [h_in]; decide) (by rw [h_in]; decide) (by rw [h_in]; decide) (by decide) ?_
    refine lv_aload_n hx hb dX11_tellOf_109 rfl (lv_at hl 1 rfl) ?_
    have hi_15 := h.1
    have h := h.2
    obtain ⟨p_15, hp_15⟩ := cget_24 cI cZ cP cF q S hi_15
    refine va_get (D := D) (ci := 8) (v := .int (cv S 248 i0 0)) (C := RX8) (T := TX8) (N := 10) hx hb hts (fun _ h => List.mem_cons_of_mem _ (List.mem_append_left _ (List.mem_append_left _ (List.mem_append_right _ h)))) hown hK hP p_15 hp_15 rfl 8 (by decide) (hts (.fieldLink RX11 186 "TemplateForge$Program" "deepest" "I") (List.mem_of_getElem? (i := 15) rfl)) (fun _ h9 => h9) rfl dX11_tellOf_110 ?_
    exact W.iret (v := cv S 248 i0 0) hx hb hr (fun t ht hW => ⟨_, rfl, h, ht⟩) (fun q h => by cases h) dX11_tellOf_113

def wp_X11_of (S : CST) (a1 : Int32) (a2 : Int32) (Post : Int32 → Prop) : Prop :=
  wp_X0_at S a1 (fun r3 => ((r3 < 0) → (Post (-2))) ∧ ((¬ (r3 < 0)) → (wp_X11_tellOf S ((r3 : Int32).toNatClampNeg) a2 (fun r5 => Post r5))))
def zw_zd_X11_of_w0 : List Cond := [.fieldLink RX11 15 "TemplateForge" "book" "LTemplateForge$Book;", .code yX0_at cX0_at 2 (some (.object "TemplateForge$Program")), .fieldLink RX0 17 "TemplateForge$Book" "told" "I", .fieldLink RX0 11 "TemplateForge$Book" "programs" "[LTemplateForge$Program;", .methodLink RX11 48 yX0_at, .instanceMethod yX0_at, .selects RX0 yX0_at yX0_at, .initialized RX0, .code yX11_tellOf cX11_tellOf 3 (some .int), .fieldLink RX11 111 "TemplateForge$Program" "heat" "LTemplateForge$Heat;", .fieldLink RX11 165 "TemplateForge$Heat" "hasCode" "Z", .fieldLink RX11 169 "TemplateForge$Heat" "counted" "I", .fieldLink RX11 172 "TemplateForge$Heat" "made" "I", .fieldLink RX11 175 "TemplateForge$Heat" "failed" "I", .fieldLink RX11 176 "TemplateForge$Heat" "ran" "I", .fieldLink RX11 115 "TemplateForge$Heat" "latest" "LTemplateForge$Code;"]
def zw_zd_X11_of_w1 : List Cond := [.code yX1_parts cX1_parts 1 (some .int), .fieldLink RX1 18 "TemplateForge$Code" "cells" "[I", .methodLink RX11 179 yX1_parts, .instanceMethod yX1_parts, .selects RX1 yX1_parts yX1_parts, .initialized RX1, .fieldLink RX11 183 "TemplateForge$Program" "length" "I", .fieldLink RX11 186 "TemplateForge$Program" "deepest" "I", .methodLink RX11 107 yX11_tellOf, .static yX11_tellOf, .initialized RX11]
def zw_zd_X11_of : List Cond := .code yX11_of cX11_of 4 (some .int) :: ((zw_zd_X11_of_w0 ++ (zw_zd_X11_of_w1)) ++ wsX110 ++ wsX00 ++ wsX80 ++ wsX50 ++ wsX10)
set_option maxRecDepth 100000 in
theorem zg_zd_X11_of_zd_X0_at_48_a : GoodIn zw_zd_X11_of [.methodLink RX11 48 yX0_at, .instanceMethod yX0_at, .selects RX0 yX0_at yX0_at, .initialized RX0] := goodIn_r _ [5, 6, 7, 8] rfl (by decide +kernel)
set_option maxRecDepth 100000 in
theorem zg_zd_X11_of_zd_X0_at_48_c : GoodIn zw_zd_X11_of [.code yX0_at cX0_at 2 (some (.object "TemplateForge$Program"))] := goodIn_r _ [2] rfl (by decide +kernel)
set_option maxRecDepth 100000 in
theorem zg_zd_X11_of_zd_X0_at_48_0 : GoodIn zw_zd_X11_of zw_zd_X0_at_w0 := goodIn_r _ [3, 4] rfl (by decide +kernel)
theorem zg_zd_X11_of_zd_X0_at_48 : GoodIn zw_zd_X11_of (wsV RX11 48 RX0 yX0_at zw_zd_X0_at) := goodIn_app zg_zd_X11_of_zd_X0_at_48_a (goodIn_ca (a := (zw_zd_X0_at_w0)) (show GoodIn zw_zd_X11_of (.code yX0_at cX0_at 2 (some (.object "TemplateForge$Program")) :: (zw_zd_X0_at_w0)) from goodIn_app zg_zd_X11_of_zd_X0_at_48_c (zg_zd_X11_of_zd_X0_at_48_0)) (fun w h => ⟨(fun _ h => List.mem_cons_of_mem _ (List.mem_append_left _ (List.mem_append_left _ (List.mem_append_left _ (List.mem_append_right _ h))))) w h, good_of_word (List.all_eq_true.mp zgw_X0 w h)⟩))
set_option maxRecDepth 100000 in
theorem zg_zd_X11_of_zd_X11_tellOf_107_a : GoodIn zw_zd_X11_of [.methodLink RX11 107 yX11_tellOf, .static yX11_tellOf, .initialized RX11] := goodIn_r _ [25, 26, 27] rfl (by decide +kernel)
set_option maxRecDepth 100000 in
theorem zg_zd_X11_of_zd_X11_tellOf_107_c : GoodIn zw_zd_X11_of [.code yX11_tellOf cX11_tellOf 3 (some .int)] := goodIn_r _ [9] rfl (by decide +kernel)
set_option maxRecDepth 100000 in
theorem zg_zd_X11_of_zd_X11_tellOf_107_0 : GoodIn zw_zd_X11_of zw_zd_X11_tellOf_w0 := goodIn_r _ [10, 11, 12, 13, 14, 15, 16, 17, 18, 19, 20, 21, 22, 23, 24] rfl (by decide +kernel)
theorem zg_zd_X11_of_zd_X11_tellOf_107 : GoodIn zw_zd_X11_of (va_wsS RX11 107 yX11_tellOf zw_zd_X11_tellOf) := goodIn_app zg_zd_X11_of_zd_X11_tellOf_107_a (goodIn_ca (a := (((zw_zd_X11_tellOf_w0) ++ wsX80) ++ wsX50)) (goodIn_ca (a := ((zw_zd_X11_tellOf_w0) ++ wsX80)) (goodIn_ca (a := (zw_zd_X11_tellOf_w0)) (show GoodIn zw_zd_X11_of (.code yX11_tellOf cX11_tellOf 3 (some .int) :: (zw_zd_X11_tellOf_w0)) from goodIn_app zg_zd_X11_of_zd_X11_tellOf_107_c (zg_zd_X11_of_zd_X11_tellOf_107_0)) (fun w h => ⟨(fun _ h => List.mem_cons_of_mem _ (List.mem_append_left _ (List.mem_append_left _ (List.mem_append_right _ h)))) w h, good_of_word (List.all_eq_true.mp zgw_X8 w h)⟩)) (fun w h => ⟨(fun _ h => List.mem_cons_of_mem _ (List.mem_append_left _ (List.mem_append_right _ h))) w h, good_of_word (List.all_eq_true.mp zgw_X5 w h)⟩)) (fun w h => ⟨(fun _ h => List.mem_cons_of_mem _ (List.mem_append_right _ h)) w h, good_of_word (List.all_eq_true.mp zgw_X1 w h)⟩))
set_option maxHeartbeats 16000000 in
set_option maxRecDepth 100000 in
theorem zd_X11_of (l : Launch) (D : va_G) (cI cZ cP cF : Nat) (q : Nat → Nat → Nat) (S : CST) (a1 : Int32) (a2 : Int32) (Post : Int32 → Prop) (h : wp_X11_of S a1 a2 Post) : Met l yX11_of zw_zd_X11_of ({ frames := 2, cells := 0, slots := 0, locals := 42 }) (va_Pc [.ref (q 0 0), .int a1, .int a2] (fun U => va_P D vwCl (cW cI cZ cP cF q S) U.heap ∧ zF D cI cZ cP cF U)) (vp_Si Post) 0 0 (fun _ => False) := by
  unfold wp_X11_of at h
  refine Met.ofW (cc := cX11_of) (maxL := 4) (ret := (some .int)) (by decide) rfl ?_
  intro p e s m args below meth c s₁ B hml hv
  obtain ⟨rfl, hP, hE⟩ := hv
  have hx := B.exec
  have hb := B.bytes
  have hr := B.returns
  have hts := atoms_spec (ws := zw_zd_X11_of) B.pre
  have hown : s.vm.findClass RX11 = some m.cls := findClass_of_methodNamed B.named
  have hlocks := B.notSynchronized
  have hK := hE.k
  have hl := lv_entry ([.ref (q 0 0), .int a1, .int a2]) (n := 4) (Nat.le_of_ble_eq_true rfl)
  rw [lg_entry_eq]
  generalize (lg_sl ([.ref (q 0 0), .int a1, .int a2]) ++ List.replicate (4 - (lg_sl ([.ref (q 0 0), .int a1, .int a2])).length) Slot.unset).toArray = ls at hl ⊢
  have hl : lv_has ls 4 [(0, .ref (q 0 0)), (1, .int a1), (2, .int a2)] := hl
  refine lv_aload_n hx hb dX11_of_0 rfl (lv_at hl 0 rfl) ?_
  obtain ⟨p_1, hp_1⟩ := cget_0 cI cZ cP cF q S
  have hi_1 : cin S 0 0 := Or.inl ⟨by decide, rfl⟩
  refine va_get (D := D) (ci := 11) (v := .ref (q 1 0)) (C := RX11) (T := TX11) (N := 4) hx hb hts (fun _ h => List.mem_cons_of_mem _ (List.mem_append_left _ (List.mem_append_left _ (List.mem_append_left _ (List.mem_append_left _ (List.mem_append_right _ h)))))) hown hK hP p_1 hp_1 rfl 0 (by decide) (hts (.fieldLink RX11 15 "TemplateForge" "book" "LTemplateForge$Book;") (List.mem_of_getElem? (i := 1) rfl)) (fun _ h9 => h9) rfl dX11_of_1 ?_
  refine lv_iload_n hx hb dX11_of_4 rfl (lv_at hl 1 rfl) ?_
  obtain ⟨p_2, hp_2⟩ := cget_1 cI cZ cP cF q S
  have hi_2 : cin S 1 0 := Or.inl ⟨by decide, rfl⟩
  refine va_csq (va_Run.run (va_runV (As := [.int a1]) (rest := []) ⟨hx, hb, hml, hown, hts⟩ (zd_X0_at l D cI cZ cP cF q S a1  _ h) (cwV 1 hts zg_zd_X11_of_zd_X0_at_48 rfl rfl rfl (by decide +kernel) ⟨Nat.le_of_ble_eq_true rfl, Nat.le_of_ble_eq_true rfl⟩) ⟨zCR, va_recv hK hP (ci := 0) (q0 := p_2) rfl hp_2, fun U hU hW => ⟨rfl, by rw [hU]; exact hP, hE.warm hW⟩⟩ rfl rfl hl.1 rfl (lv_room (Nat.le_of_ble_eq_true rfl)) dX11_of_5 ⟨Nat.le_of_ble_eq_true rfl, Nat.le_of_ble_eq_true rfl⟩)) (fun o_3 ho_3 => ?_)
  obtain ⟨r3, rfl, h⟩ := ho_3
  by_cases hn_4 : r3 < 0
  · have h := h.1 hn_4
    rw [show va_rf (cno q 24 r3) = .null from cn_neg hn_4]
    refine lv_astore_nN (lv' := [(3, .null), (0, .ref (q 0 0)), (1, .int a1), (2, .int a2)]) hx hb dX11_of_8 rfl hl (by decide) rfl (fun ls hl => ?_)
    refine lv_aload_nN hx hb dX11_of_9 rfl (lv_at hl 0 rfl) ?_
    refine lv_ifnonnullN hx hb dX11_of_10 ?_
    refine lv_bipush (v := (-2)) hx hb dX11_of_13 (by decide) ?_
    refine lv_goto (tgt := 23) hx hb dX11_of_15 (by decide) ?_
    exact W.iret (v := (-2)) hx hb hr (fun t ht hW => ⟨_, rfl, h, ht⟩) (fun q h => by cases h) dX11_of_23
  · have h := h.2 hn_4
    rw [show va_rf (cno q 24 r3) = .ref (q 24 (r3 : Int32).toNatClampNeg) from cn_pos hn_4]
    refine lv_astore_n (lv' := [(3, .ref (q 24 ((r3 : Int32).toNatClampNeg))), (0, .ref (q 0 0)), (1, .int a1), (2, .int a2)]) hx hb dX11_of_8 rfl hl (by decide) rfl (fun ls hl => ?_)
    refine lv_aload_n hx hb dX11_of_9 rfl (lv_at hl 0 rfl) ?_
    refine lv_ifnonnull (tgt := 18) hx hb dX11_of_10 (by decide) ?_
    refine lv_aload_n hx hb dX11_of_18 rfl (lv_at hl 0 rfl) ?_
    refine lv_iload_n hx hb dX11_of_19 rfl (lv_at hl 3 rfl) ?_
    refine vp_callSi (va_Run.run (va_runS (As := [.ref (q 24 ((r3 : Int32).toNatClampNeg)), .int a2]) (rest := []) ⟨hx, hb, hml, hown, hts⟩ (zd_X11_tellOf l D cI cZ cP cF q S ((r3 : Int32).toNatClampNeg) a2  _ h) (va_cwS 2 hts zg_zd_X11_of_zd_X11_tellOf_107 rfl rfl rfl (by decide +kernel) ⟨Nat.le_of_ble_eq_true rfl, Nat.le_of_ble_eq_true rfl⟩) ⟨zCR, fun U hU hW => ⟨rfl, by rw [hU]; exact hP, hE.warm hW⟩⟩ rfl rfl hl.1 rfl (lv_room (Nat.le_of_ble_eq_true rfl)) dX11_of_20 ⟨Nat.le_of_ble_eq_true rfl, Nat.le_of_ble_eq_true rfl⟩)) (fun r5 h => ?_)
    exact W.iret (v := r5) hx hb hr (fun t ht hW => ⟨_, rfl, h, ht⟩) (fun q h => by cases h) dX11_of_23

def wp_X11_part (S : CST) (a1 : Int32) (a2 : Int32) (a3 : Int32) (Post : Int32 → Prop) : Prop :=
  wp_X0_at S a1 (fun r3 => ((r3 < 0) → (Post (-2147483648))) ∧ ((¬ (r3 < 0)) → (cin S 24 ((r3 : Int32).toNatClampNeg) ∧ (cin S 28 ((r3 : Int32).toNatClampNeg) ∧ (((cv S 281 ((r3 : Int32).toNatClampNeg) 0) < 0) → (Post (-2147483648))) ∧ ((¬ ((cv S 281 ((r3 : Int32).toNatClampNeg) 0) < 0)) → (cin S 24 ((r3 : Int32).toNatClampNeg) ∧ (cin S 28 ((r3 : Int32).toNatClampNeg) ∧ (((cv S 281 ((r3 : Int32).toNatClampNeg) 0) < 0) → (False)) ∧ ((¬ ((cv S 281 ((r3 : Int32).toNatClampNeg) 0) < 0)) → (cin S 32 (((cv S 281 ((r3 : Int32).toNatClampNeg) 0) : Int32).toNatClampNeg) ∧ (wp_X1_cell S (((cv S 281 ((r3 : Int32).toNatClampNeg) 0) : Int32).toNatClampNeg) a2 a3 (fun r12 => Post r12)))))))))))
def zw_zd_X11_part_w0 : List Cond := [.fieldLink RX11 15 "TemplateForge" "book" "LTemplateForge$Book;", .code yX0_at cX0_at 2 (some (.object "TemplateForge$Program")), .fieldLink RX0 17 "TemplateForge$Book" "told" "I", .fieldLink RX0 11 "TemplateForge$Book" "programs" "[LTemplateForge$Program;", .methodLink RX11 48 yX0_at, .instanceMethod yX0_at, .selects RX0 yX0_at yX0_at, .initialized RX0, .constant RX11 69 (-2147483648), .fieldLink RX11 111 "TemplateForge$Program" "heat" "LTemplateForge$Heat;", .fieldLink RX11 115 "TemplateForge$Heat" "latest" "LTemplateForge$Code;", .code yX1_cell cX1_cell 3 (some .int), .constant RX1 29 (-2147483648), .code yX1_parts cX1_parts 1 (some .int), .fieldLink RX1 18 "TemplateForge$Code" "cells" "[I", .methodLink RX1 25 yX1_parts]
def zw_zd_X11_part_w1 : List Cond := [.instanceMethod yX1_parts, .selects RX1 yX1_parts yX1_parts, .initialized RX1, .methodLink RX11 121 yX1_cell, .instanceMethod yX1_cell, .selects RX1 yX1_cell yX1_cell]
def zw_zd_X11_part : List Cond := .code yX11_part cX11_part 5 (some .int) :: ((zw_zd_X11_part_w0 ++ (zw_zd_X11_part_w1)) ++ wsX110 ++ wsX00 ++ wsX80 ++ wsX50 ++ wsX10)
set_option maxRecDepth 100000 in
theorem zg_zd_X11_part_zd_X0_at_48_a : GoodIn zw_zd_X11_part [.methodLink RX11 48 yX0_at, .instanceMethod yX0_at, .selects RX0 yX0_at yX0_at, .initialized RX0] := goodIn_r _ [5, 6, 7, 8] rfl (by decide +kernel)
set_option maxRecDepth 100000 in
theorem zg_zd_X11_part_zd_X0_at_48_c : GoodIn zw_zd_X11_part [.code yX0_at cX0_at 2 (some (.object "TemplateForge$Program"))] := goodIn_r _ [2] rfl (by decide +kernel)
set_option maxRecDepth 100000 in
theorem zg_zd_X11_part_zd_X0_at_48_0 : GoodIn zw_zd_X11_part zw_zd_X0_at_w0 := goodIn_r _ [3, 4] rfl (by decide +kernel)
theorem zg_zd_X11_part_zd_X0_at_48 : GoodIn zw_zd_X11_part (wsV RX11 48 RX0 yX0_at zw_zd_X0_at) := goodIn_app zg_zd_X11_part_zd_X0_at_48_a (goodIn_ca (a := (zw_zd_X0_at_w0)) (show GoodIn zw_zd_X11_part (.code yX0_at cX0_at 2 (some (.object "TemplateForge$Program")) :: (zw_zd_X0_at_w0)) from goodIn_app zg_zd_X11_part_zd_X0_at_48_c (zg_zd_X11_part_zd_X0_at_48_0)) (fun w h => ⟨(fun _ h => List.mem_cons_of_mem _ (List.mem_append_left _ (List.mem_append_left _ (List.mem_append_left _ (List.mem_append_right _ h))))) w h, good_of_word (List.all_eq_true.mp zgw_X0 w h)⟩))
set_option maxRecDepth 100000 in
theorem zg_zd_X11_part_zd_X1_cell_121_a : GoodIn zw_zd_X11_part [.methodLink RX11 121 yX1_cell, .instanceMethod yX1_cell, .selects RX1 yX1_cell yX1_cell, .initialized RX1] := goodIn_r _ [20, 21, 22, 19] rfl (by decide +kernel)
set_option maxRecDepth 100000 in
theorem zg_zd_X11_part_zd_X1_cell_121_c : GoodIn zw_zd_X11_part [.code yX1_cell cX1_cell 3 (some .int)] := goodIn_r _ [12] rfl (by decide +kernel)
set_option maxRecDepth 100000 in
theorem zg_zd_X11_part_zd_X1_cell_121_0 : GoodIn zw_zd_X11_part zw_zd_X1_cell_w0 := goodIn_r _ [13, 14, 15, 16, 17, 18, 19] rfl (by decide +kernel)
theorem zg_zd_X11_part_zd_X1_cell_121 : GoodIn zw_zd_X11_part (wsV RX11 121 RX1 yX1_cell zw_zd_X1_cell) := goodIn_app zg_zd_X11_part_zd_X1_cell_121_a (goodIn_ca (a := (zw_zd_X1_cell_w0)) (show GoodIn zw_zd_X11_part (.code yX1_cell cX1_cell 3 (some .int) :: (zw_zd_X1_cell_w0)) from goodIn_app zg_zd_X11_part_zd_X1_cell_121_c (zg_zd_X11_part_zd_X1_cell_121_0)) (fun w h => ⟨(fun _ h => List.mem_cons_of_mem _ (List.mem_append_right _ h)) w h, good_of_word (List.all_eq_true.mp zgw_X1 w h)⟩))
set_option maxHeartbeats 16000000 in
set_option maxRecDepth 100000 in
theorem zd_X11_part (l : Launch) (D : va_G) (cI cZ cP cF : Nat) (q : Nat → Nat → Nat) (S : CST) (a1 : Int32) (a2 : Int32) (a3 : Int32) (Post : Int32 → Prop) (h : wp_X11_part S a1 a2 a3 Post) : Met l yX11_part zw_zd_X11_part ({ frames := 2, cells := 0, slots := 0, locals := 42 }) (va_Pc [.ref (q 0 0), .int a1, .int a2, .int a3] (fun U => va_P D vwCl (cW cI cZ cP cF q S) U.heap ∧ zF D cI cZ cP cF U)) (vp_Si Post) 0 0 (fun _ => False) := by
  unfold wp_X11_part at h
  refine Met.ofW (cc := cX11_part) (maxL := 5) (ret := (some .int)) (by decide) rfl ?_
  intro p e s m args below meth c s₁ B hml hv
  obtain ⟨rfl, hP, hE⟩ := hv
  have hx := B.exec
  have hb := B.bytes
  have hr := B.returns
  have hts := atoms_spec (ws := zw_zd_X11_part) B.pre
  have hown : s.vm.findClass RX11 = some m.cls := findClass_of_methodNamed B.named
  have hlocks := B.notSynchronized
  have hK := hE.k
  have hl := lv_entry ([.ref (q 0 0), .int a1, .int a2, .int a3]) (n := 5) (Nat.le_of_ble_eq_true rfl)
  rw [lg_entry_eq]
  generalize (lg_sl ([.ref (q 0 0), .int a1, .int a2, .int a3]) ++ List.replicate (5 - (lg_sl ([.ref (q 0 0), .int a1, .int a2, .int a3])).length) Slot.unset).toArray = ls at hl ⊢
  have hl : lv_has ls 5 [(0, .ref (q 0 0)), (1, .int a1), (2, .int a2), (3, .int a3)] := hl
  refine lv_aload_n hx hb dX11_part_0 rfl (lv_at hl 0 rfl) ?_
  obtain ⟨p_1, hp_1⟩ := cget_0 cI cZ cP cF q S
  have hi_1 : cin S 0 0 := Or.inl ⟨by decide, rfl⟩
  refine va_get (D := D) (ci := 11) (v := .ref (q 1 0)) (C := RX11) (T := TX11) (N := 4) hx hb hts (fun _ h => List.mem_cons_of_mem _ (List.mem_append_left _ (List.mem_append_left _ (List.mem_append_left _ (List.mem_append_left _ (List.mem_append_right _ h)))))) hown hK hP p_1 hp_1 rfl 0 (by decide) (hts (.fieldLink RX11 15 "TemplateForge" "book" "LTemplateForge$Book;") (List.mem_of_getElem? (i := 1) rfl)) (fun _ h9 => h9) rfl dX11_part_1 ?_
  refine lv_iload_n hx hb dX11_part_4 rfl (lv_at hl 1 rfl) ?_
  obtain ⟨p_2, hp_2⟩ := cget_1 cI cZ cP cF q S
  have hi_2 : cin S 1 0 := Or.inl ⟨by decide, rfl⟩
  refine va_csq (va_Run.run (va_runV (As := [.int a1]) (rest := []) ⟨hx, hb, hml, hown, hts⟩ (zd_X0_at l D cI cZ cP cF q S a1  _ h) (cwV 1 hts zg_zd_X11_part_zd_X0_at_48 rfl rfl rfl (by decide +kernel) ⟨Nat.le_of_ble_eq_true rfl, Nat.le_of_ble_eq_true rfl⟩) ⟨zCR, va_recv hK hP (ci := 0) (q0 := p_2) rfl hp_2, fun U hU hW => ⟨rfl, by rw [hU]; exact hP, hE.warm hW⟩⟩ rfl rfl hl.1 rfl (lv_room (Nat.le_of_ble_eq_true rfl)) dX11_part_5 ⟨Nat.le_of_ble_eq_true rfl, Nat.le_of_ble_eq_true rfl⟩)) (fun o_3 ho_3 => ?_)
  obtain ⟨r3, rfl, h⟩ := ho_3
  by_cases hn_4 : r3 < 0
  · have h := h.1 hn_4
    rw [show va_rf (cno q 24 r3) = .null from cn_neg hn_4]
    refine lv_astoreN (lv' := [(4, .null), (0, .ref (q 0 0)), (1, .int a1), (2, .int a2), (3, .int a3)]) hx hb dX11_part_8 hl (by decide) rfl (fun ls hl => ?_)
    refine lv_aloadN hx hb dX11_part_10 (lv_at hl 0 rfl) ?_
    refine lv_ifnullN (tgt := 26) hx hb dX11_part_12 (by decide) ?_
    refine lv_ldc hx hb hown (hts (.constant RX11 69 (-2147483648)) (List.mem_of_getElem? (i := 9) rfl)) dX11_part_26 ?_
    refine lv_goto (tgt := 44) hx hb dX11_part_28 (by decide) ?_
    exact W.iret (v := (-2147483648)) hx hb hr (fun t ht hW => ⟨_, rfl, h, ht⟩) (fun q h => by cases h) dX11_part_44
  · have h := h.2 hn_4
    rw [show va_rf (cno q 24 r3) = .ref (q 24 (r3 : Int32).toNatClampNeg) from cn_pos hn_4]
    refine lv_astore (lv' := [(4, .ref (q 24 ((r3 : Int32).toNatClampNeg))), (0, .ref (q 0 0)), (1, .int a1), (2, .int a2), (3, .int a3)]) hx hb dX11_part_8 hl (by decide) rfl (fun ls hl => ?_)
    refine lv_aload hx hb dX11_part_10 (lv_at hl 0 rfl) ?_
    refine lv_ifnull hx hb dX11_part_12 ?_
    refine lv_aload hx hb dX11_part_15 (lv_at hl 0 rfl) ?_
    have hi_5 := h.1
    have h := h.2
    obtain ⟨p_5, hp_5⟩ := cget_24 cI cZ cP cF q S hi_5
    refine va_get (D := D) (ci := 8) (v := .ref (q 28 ((r3 : Int32).toNatClampNeg))) (C := RX8) (T := TX8) (N := 10) hx hb hts (fun _ h => List.mem_cons_of_mem _ (List.mem_append_left _ (List.mem_append_left _ (List.mem_append_right _ h)))) hown hK hP p_5 hp_5 rfl 3 (by decide) (hts (.fieldLink RX11 111 "TemplateForge$Program" "heat" "LTemplateForge$Heat;") (List.mem_of_getElem? (i := 10) rfl)) (fun _ h9 => h9) rfl dX11_part_17 ?_
    have hi_6 := h.1
    have h := h.2
    obtain ⟨p_6, hp_6⟩ := cget_28 cI cZ cP cF q S hi_6
    by_cases hn_7 : (cv S 281 ((r3 : Int32).toNatClampNeg) 0) < 0
    · have h := h.1 hn_7
      refine va_get (D := D) (ci := 5) (v := .null) (C := RX5) (T := TX5) (N := 9) hx hb hts (fun _ h => List.mem_cons_of_mem _ (List.mem_append_left _ (List.mem_append_right _ h))) hown hK hP p_6 hp_6 rfl 1 (by decide) (hts (.fieldLink RX11 115 "TemplateForge$Heat" "latest" "LTemplateForge$Code;") (List.mem_of_getElem? (i := 11) rfl)) (fun _ h9 => h9) (congrArg some (cn_neg hn_7)) dX11_part_20 ?_
      refine lv_ifnonnullN hx hb dX11_part_23 ?_
      refine lv_ldc hx hb hown (hts (.constant RX11 69 (-2147483648)) (List.mem_of_getElem? (i := 9) rfl)) dX11_part_26 ?_
      refine lv_goto (tgt := 44) hx hb dX11_part_28 (by decide) ?_
      exact W.iret (v := (-2147483648)) hx hb hr (fun t ht hW => ⟨_, rfl, h, ht⟩) (fun q h => by cases h) dX11_part_44
    · have h := h.2 hn_7
      refine va_get (D := D) (ci := 5) (v := .ref (q 32 ((cv S 281 ((r3 : Int32).toNatClampNeg) 0) : Int32).toNatClampNeg)) (C := RX5) (T := TX5) (N := 9) hx hb hts (fun _ h => List.mem_cons_of_mem _ (List.mem_append_left _ (List.mem_append_right _ h))) hown hK hP p_6 hp_6 rfl 1 (by decide) (hts (.fieldLink RX11 115 "TemplateForge$Heat" "latest" "LTemplateForge$Code;") (List.mem_of_getElem? (i := 11) rfl)) (fun _ h9 => h9) (congrArg some (cn_pos hn_7)) dX11_part_20 ?_
      refine lv_ifnonnull (tgt := 31) hx hb dX11_part_23 (by decide) ?_
      refine lv_aload hx hb dX11_part_31 (lv_at hl 0 rfl) ?_
      have hi_8 := h.1
      have h := h.2
      obtain ⟨p_8, hp_8⟩ := cget_24 cI cZ cP cF q S hi_8
      refine va_get (D := D) (ci := 8) (v := .ref (q 28 ((r3 : Int32).toNatClampNeg))) (C := RX8) (T := TX8) (N := 10) hx hb hts (fun _ h => List.mem_cons_of_mem _ (List.mem_append_left _ (List.mem_append_left _ (List.mem_append_right _ h)))) hown hK hP p_8 hp_8 rfl 3 (by decide) (hts (.fieldLink RX11 111 "TemplateForge$Program" "heat" "LTemplateForge$Heat;") (List.mem_of_getElem? (i := 10) rfl)) (fun _ h9 => h9) rfl dX11_part_33 ?_
      have hi_9 := h.1
      have h := h.2
      obtain ⟨p_9, hp_9⟩ := cget_28 cI cZ cP cF q S hi_9
      by_cases hn_10 : (cv S 281 ((r3 : Int32).toNatClampNeg) 0) < 0
      · have h := h.1 hn_10
        refine va_get (D := D) (ci := 5) (v := .null) (C := RX5) (T := TX5) (N := 9) hx hb hts (fun _ h => List.mem_cons_of_mem _ (List.mem_append_left _ (List.mem_append_right _ h))) hown hK hP p_9 hp_9 rfl 1 (by decide) (hts (.fieldLink RX11 115 "TemplateForge$Heat" "latest" "LTemplateForge$Code;") (List.mem_of_getElem? (i := 11) rfl)) (fun _ h9 => h9) (congrArg some (cn_neg hn_10)) dX11_part_36 ?_
        refine lv_iload_n hx hb dX11_part_39 rfl (lv_at hl 3 rfl) ?_
        refine lv_iload_n hx hb dX11_part_40 rfl (lv_at hl 4 rfl) ?_
        exact h.elim
      · have h := h.2 hn_10
        refine va_get (D := D) (ci := 5) (v := .ref (q 32 ((cv S 281 ((r3 : Int32).toNatClampNeg) 0) : Int32).toNatClampNeg)) (C := RX5) (T := TX5) (N := 9) hx hb hts (fun _ h => List.mem_cons_of_mem _ (List.mem_append_left _ (List.mem_append_right _ h))) hown hK hP p_9 hp_9 rfl 1 (by decide) (hts (.fieldLink RX11 115 "TemplateForge$Heat" "latest" "LTemplateForge$Code;") (List.mem_of_getElem? (i := 11) rfl)) (fun _ h9 => h9) (congrArg some (cn_pos hn_10)) dX11_part_36 ?_
        refine lv_iload_n hx hb dX11_part_39 rfl (lv_at hl 3 rfl) ?_
        refine lv_iload_n hx hb dX11_part_40 rfl (lv_at hl 4 rfl) ?_
        have hi_11 := h.1
        have h := h.2
        obtain ⟨p_11, hp_11⟩ := cget_32 cI cZ cP cF q S hi_11
        refine vp_callSi (va_Run.run (va_runV (As := [.int a2, .int a3]) (rest := []) ⟨hx, hb, hml, hown, hts⟩ (zd_X1_cell l D cI cZ cP cF q S (((cv S 281 ((r3 : Int32).toNatClampNeg) 0) : Int32).toNatClampNeg) a2 a3  _ h) (cwV 2 hts zg_zd_X11_part_zd_X1_cell_121 rfl rfl rfl (by decide +kernel) ⟨Nat.le_of_ble_eq_true rfl, Nat.le_of_ble_eq_true rfl⟩) ⟨zCR, va_recv hK hP (ci := 1) (q0 := p_11) rfl hp_11, fun U hU hW => ⟨rfl, by rw [hU]; exact hP, hE.warm hW⟩⟩ rfl rfl hl.1 rfl (lv_room (Nat.le_of_ble_eq_true rfl)) dX11_part_41 ⟨Nat.le_of_ble_eq_true rfl, Nat.le_of_ble_eq_true rfl⟩)) (fun r12 h => ?_)
        exact W.iret (v := r12) hx hb hr (fun t ht hW => ⟨_, rfl, h, ht⟩) (fun q h => by cases h) dX11_part_44

def wp_X11_varies (S : CST) (a1 : Int32) (a2 : Int32) (Post : Int32 → Prop) : Prop :=
  wp_X0_at S a1 (fun r3 => ((r3 < 0) → ((((a2 : Int32) < 0) → ((((a2 : Int32) < 10) → (Post (-2))) ∧ ((¬ ((a2 : Int32) < 10)) → (((18 ≤ a2) → (Post (-2))) ∧ ((¬ (18 ≤ a2)) → (Post (-2))))))) ∧ ((¬ ((a2 : Int32) < 0)) → (((3 ≤ a2) → ((((a2 : Int32) < 10) → (Post (-2))) ∧ ((¬ ((a2 : Int32) < 10)) → (((18 ≤ a2) → (Post (-2))) ∧ ((¬ (18 ≤ a2)) → (Post (-2))))))) ∧ ((¬ (3 ≤ a2)) → ((((a2 : Int32) < 10) → (Post (-2))) ∧ ((¬ ((a2 : Int32) < 10)) → (((18 ≤ a2) → (Post (-2))) ∧ ((¬ (18 ≤ a2)) → (Post (-2))))))))))) ∧ ((¬ (r3 < 0)) → ((((a2 : Int32) < 0) → ((((a2 : Int32) < 10) → (Post (-2))) ∧ ((¬ ((a2 : Int32) < 10)) → (((18 ≤ a2) → (Post (-2))) ∧ ((¬ (18 ≤ a2)) → (cin S 24 ((r3 : Int32).toNatClampNeg) ∧ (cin S 28 ((r3 : Int32).toNatClampNeg) ∧ (wp_X5_isVarying S ((r3 : Int32).toNatClampNeg) ((3 + a2) - 10) (fun r18 => (((r18 : Int32) = 0) → (Post 0)) ∧ ((¬ ((r18 : Int32) = 0)) → (Post 1))))))))))) ∧ ((¬ ((a2 : Int32) < 0)) → (((3 ≤ a2) → ((((a2 : Int32) < 10) → (Post (-2))) ∧ ((¬ ((a2 : Int32) < 10)) → (((18 ≤ a2) → (Post (-2))) ∧ ((¬ (18 ≤ a2)) → (cin S 24 ((r3 : Int32).toNatClampNeg) ∧ (cin S 28 ((r3 : Int32).toNatClampNeg) ∧ (wp_X5_isVarying S ((r3 : Int32).toNatClampNeg) ((3 + a2) - 10) (fun r25 => (((r25 : Int32) = 0) → (Post 0)) ∧ ((¬ ((r25 : Int32) = 0)) → (Post 1))))))))))) ∧ ((¬ (3 ≤ a2)) → ((((a2 : Int32) < 10) → (cin S 24 ((r3 : Int32).toNatClampNeg) ∧ (cin S 28 ((r3 : Int32).toNatClampNeg) ∧ (wp_X5_isVarying S ((r3 : Int32).toNatClampNeg) a2 (fun r30 => (((r30 : Int32) = 0) → (Post 0)) ∧ ((¬ ((r30 : Int32) = 0)) → (Post 1))))))) ∧ ((¬ ((a2 : Int32) < 10)) → (((18 ≤ a2) → (cin S 24 ((r3 : Int32).toNatClampNeg) ∧ (cin S 28 ((r3 : Int32).toNatClampNeg) ∧ (wp_X5_isVarying S ((r3 : Int32).toNatClampNeg) a2 (fun r35 => (((r35 : Int32) = 0) → (Post 0)) ∧ ((¬ ((r35 : Int32) = 0)) → (Post 1))))))) ∧ ((¬ (18 ≤ a2)) → (cin S 24 ((r3 : Int32).toNatClampNeg) ∧ (cin S 28 ((r3 : Int32).toNatClampNeg) ∧ (wp_X5_isVarying S ((r3 : Int32).toNatClampNeg) a2 (fun r39 => (((r39 : Int32) = 0) → (Post 0)) ∧ ((¬ ((r39 : Int32) = 0)) → (Post 1))))))))))))))))
def zw_zd_X11_varies_w0 : List Cond := [.fieldLink RX11 15 "TemplateForge" "book" "LTemplateForge$Book;", .code yX0_at cX0_at 2 (some (.object "TemplateForge$Program")), .fieldLink RX0 17 "TemplateForge$Book" "told" "I", .fieldLink RX0 11 "TemplateForge$Book" "programs" "[LTemplateForge$Program;", .methodLink RX11 48 yX0_at, .instanceMethod yX0_at, .selects RX0 yX0_at yX0_at, .initialized RX0, .fieldLink RX11 111 "TemplateForge$Program" "heat" "LTemplateForge$Heat;", .code yX5_isVarying cX5_isVarying 2 (some .boolean), .fieldLink RX5 19 "TemplateForge$Heat" "varying" "[Z", .methodLink RX11 126 yX5_isVarying, .instanceMethod yX5_isVarying, .selects RX5 yX5_isVarying yX5_isVarying, .initialized RX5]
def zw_zd_X11_varies : List Cond := .code yX11_varies cX11_varies 6 (some .int) :: ((zw_zd_X11_varies_w0) ++ wsX110 ++ wsX00 ++ wsX80 ++ wsX50)
set_option maxRecDepth 100000 in
theorem zg_zd_X11_varies_zd_X0_at_48_a : GoodIn zw_zd_X11_varies [.methodLink RX11 48 yX0_at, .instanceMethod yX0_at, .selects RX0 yX0_at yX0_at, .initialized RX0] := goodIn_r _ [5, 6, 7, 8] rfl (by decide +kernel)
set_option maxRecDepth 100000 in
theorem zg_zd_X11_varies_zd_X0_at_48_c : GoodIn zw_zd_X11_varies [.code yX0_at cX0_at 2 (some (.object "TemplateForge$Program"))] := goodIn_r _ [2] rfl (by decide +kernel)
set_option maxRecDepth 100000 in
theorem zg_zd_X11_varies_zd_X0_at_48_0 : GoodIn zw_zd_X11_varies zw_zd_X0_at_w0 := goodIn_r _ [3, 4] rfl (by decide +kernel)
theorem zg_zd_X11_varies_zd_X0_at_48 : GoodIn zw_zd_X11_varies (wsV RX11 48 RX0 yX0_at zw_zd_X0_at) := goodIn_app zg_zd_X11_varies_zd_X0_at_48_a (goodIn_ca (a := (zw_zd_X0_at_w0)) (show GoodIn zw_zd_X11_varies (.code yX0_at cX0_at 2 (some (.object "TemplateForge$Program")) :: (zw_zd_X0_at_w0)) from goodIn_app zg_zd_X11_varies_zd_X0_at_48_c (zg_zd_X11_varies_zd_X0_at_48_0)) (fun w h => ⟨(fun _ h => List.mem_cons_of_mem _ (List.mem_append_left _ (List.mem_append_left _ (List.mem_append_right _ h)))) w h, good_of_word (List.all_eq_true.mp zgw_X0 w h)⟩))
set_option maxRecDepth 100000 in
theorem zg_zd_X11_varies_zd_X5_isVarying_126_a : GoodIn zw_zd_X11_varies [.methodLink RX11 126 yX5_isVarying, .instanceMethod yX5_isVarying, .selects RX5 yX5_isVarying yX5_isVarying, .initialized RX5] := goodIn_r _ [12, 13, 14, 15] rfl (by decide +kernel)
set_option maxRecDepth 100000 in
theorem zg_zd_X11_varies_zd_X5_isVarying_126_c : GoodIn zw_zd_X11_varies [.code yX5_isVarying cX5_isVarying 2 (some .boolean)] := goodIn_r _ [10] rfl (by decide +kernel)
set_option maxRecDepth 100000 in
theorem zg_zd_X11_varies_zd_X5_isVarying_126_0 : GoodIn zw_zd_X11_varies zw_zd_X5_isVarying_w0 := goodIn_r _ [11] rfl (by decide +kernel)
theorem zg_zd_X11_varies_zd_X5_isVarying_126 : GoodIn zw_zd_X11_varies (wsV RX11 126 RX5 yX5_isVarying zw_zd_X5_isVarying) := goodIn_app zg_zd_X11_varies_zd_X5_isVarying_126_a (goodIn_ca (a := (zw_zd_X5_isVarying_w0)) (show GoodIn zw_zd_X11_varies (.code yX5_isVarying cX5_isVarying 2 (some .boolean) :: (zw_zd_X5_isVarying_w0)) from goodIn_app zg_zd_X11_varies_zd_X5_isVarying_126_c (zg_zd_X11_varies_zd_X5_isVarying_126_0)) (fun w h => ⟨(fun _ h => List.mem_cons_of_mem _ (List.mem_append_right _ h)) w h, good_of_word (List.all_eq_true.mp zgw_X5 w h)⟩))
set_option maxHeartbeats 16000000 in
set_option maxRecDepth 100000 in
theorem zd_X11_varies (l : Launch) (D : va_G) (cI cZ cP cF : Nat) (q : Nat → Nat → Nat) (S : CST) (a1 : Int32) (a2 : Int32) (Post : Int32 → Prop) (h : wp_X11_varies S a1 a2 Post) : Met l yX11_varies zw_zd_X11_varies ({ frames := 1, cells := 0, slots := 0, locals := 21 }) (va_Pc [.ref (q 0 0), .int a1, .int a2] (fun U => va_P D vwCl (cW cI cZ cP cF q S) U.heap ∧ zF D cI cZ cP cF U)) (vp_Si Post) 0 0 (fun _ => False) := by
  unfold wp_X11_varies at h
  refine Met.ofW (cc := cX11_varies) (maxL := 6) (ret := (some .int)) (by decide) rfl ?_
  intro p e s m args below meth c s₁ B hml hv
  obtain ⟨rfl, hP, hE⟩ := hv
  have hx := B.exec
  have hb := B.bytes
  have hr := B.returns
  have hts := atoms_spec (ws := zw_zd_X11_varies) B.pre
  have hown : s.vm.findClass RX11 = some m.cls := findClass_of_methodNamed B.named
  have hlocks := B.notSynchronized
  have hK := hE.k
  have hl := lv_entry ([.ref (q 0 0), .int a1, .int a2]) (n := 6) (Nat.le_of_ble_eq_true rfl)
  rw [lg_entry_eq]
  generalize (lg_sl ([.ref (q 0 0), .int a1, .int a2]) ++ List.replicate (6 - (lg_sl ([.ref (q 0 0), .int a1, .int a2])).length) Slot.unset).toArray = ls at hl ⊢
  have hl : lv_has ls 6 [(0, .ref (q 0 0)), (1, .int a1), (2, .int a2)] := hl
  refine lv_aload_n hx hb dX11_varies_0 rfl (lv_at hl 0 rfl) ?_
  obtain ⟨p_1, hp_1⟩ := cget_0 cI cZ cP cF q S
  have hi_1 : cin S 0 0 := Or.inl ⟨by decide, rfl⟩
  refine va_get (D := D) (ci := 11) (v := .ref (q 1 0)) (C := RX11) (T := TX11) (N := 4) hx hb hts (fun _ h => List.mem_cons_of_mem _ (List.mem_append_left _ (List.mem_append_left _ (List.mem_append_left _ (List.mem_append_right _ h))))) hown hK hP p_1 hp_1 rfl 0 (by decide) (hts (.fieldLink RX11 15 "TemplateForge" "book" "LTemplateForge$Book;") (List.mem_of_getElem? (i := 1) rfl)) (fun _ h9 => h9) rfl dX11_varies_1 ?_
  refine lv_iload_n hx hb dX11_varies_4 rfl (lv_at hl 1 rfl) ?_
  obtain ⟨p_2, hp_2⟩ := cget_1 cI cZ cP cF q S
  have hi_2 : cin S 1 0 := Or.inl ⟨by decide, rfl⟩
  refine va_csq (va_Run.run (va_runV (As := [.int a1]) (rest := []) ⟨hx, hb, hml, hown, hts⟩ (zd_X0_at l D cI cZ cP cF q S a1  _ h) (cwV 1 hts zg_zd_X11_varies_zd_X0_at_48 rfl rfl rfl (by decide +kernel) ⟨Nat.le_of_ble_eq_true rfl, Nat.le_of_ble_eq_true rfl⟩) ⟨zCR, va_recv hK hP (ci := 0) (q0 := p_2) rfl hp_2, fun U hU hW => ⟨rfl, by rw [hU]; exact hP, hE.warm hW⟩⟩ rfl rfl hl.1 rfl (lv_room (Nat.le_of_ble_eq_true rfl)) dX11_varies_5 ⟨Nat.le_of_ble_eq_true rfl, Nat.le_of_ble_eq_true rfl⟩)) (fun o_3 ho_3 => ?_)
  obtain ⟨r3, rfl, h⟩ := ho_3
  by_cases hn_4 : r3 < 0
  · have h := h.1 hn_4
    rw [show va_rf (cno q 24 r3) = .null from cn_neg hn_4]
    refine lv_astore_nN (lv' := [(3, .null), (0, .ref (q 0 0)), (1, .int a1), (2, .int a2)]) hx hb dX11_varies_8 rfl hl (by decide) rfl (fun ls hl => ?_)
    refine lv_iload_n hx hb dX11_varies_9 rfl (lv_at hl 3 rfl) ?_
    refine lv_if_lt (tgt := 22) hx hb dX11_varies_10 (by decide) (fun c_5 => ?_) (fun c_5 => ?_)
    · have h := h.1 c_5
      refine lv_iconst (v := 0) hx hb dX11_varies_22 (by decide) ?_
      refine lv_istore (lv' := [(4, .int 0), (3, .null), (0, .ref (q 0 0)), (1, .int a1), (2, .int a2)]) hx hb dX11_varies_23 hl (by decide) rfl (fun ls hl => ?_)
      refine lv_iload_n hx hb dX11_varies_25 rfl (lv_at hl 4 rfl) ?_
      refine lv_bipush (v := 10) hx hb dX11_varies_26 (by decide) ?_
      refine lv_icmp_lt (tgt := 41) hx hb dX11_varies_28 (by decide) (fun c_6 => ?_) (fun c_6 => ?_)
      · have h := h.1 c_6
        refine lv_iconst (v := 0) hx hb dX11_varies_41 (by decide) ?_
        refine lv_istore (lv' := [(5, .int 0), (4, .int 0), (3, .null), (0, .ref (q 0 0)), (1, .int a1), (2, .int a2)]) hx hb dX11_varies_42 hl (by decide) rfl (fun ls hl => ?_)
        refine lv_aload_nN hx hb dX11_varies_44 rfl (lv_at hl 2 rfl) ?_
        refine lv_ifnullN (tgt := 58) hx hb dX11_varies_45 (by decide) ?_
        refine lv_bipush (v := (-2)) hx hb dX11_varies_58 (by decide) ?_
        exact W.iret (v := (-2)) hx hb hr (fun t ht hW => ⟨_, rfl, h, ht⟩) (fun q h => by cases h) dX11_varies_60
      · have h := h.2 c_6
        refine lv_iload_n hx hb dX11_varies_31 rfl (lv_at hl 4 rfl) ?_
        refine lv_bipush (v := 18) hx hb dX11_varies_32 (by decide) ?_
        refine lv_icmp_ge (tgt := 41) hx hb dX11_varies_34 (by decide) (fun c_7 => ?_) (fun c_7 => ?_)
        · have h := h.1 c_7
          refine lv_iconst (v := 0) hx hb dX11_varies_41 (by decide) ?_
          refine lv_istore (lv' := [(5, .int 0), (4, .int 0), (3, .null), (0, .ref (q 0 0)), (1, .int a1), (2, .int a2)]) hx hb dX11_varies_42 hl (by decide) rfl (fun ls hl => ?_)
          refine lv_aload_nN hx hb dX11_varies_44 rfl (lv_at hl 2 rfl) ?_
          refine lv_ifnullN (tgt := 58) hx hb dX11_varies_45 (by decide) ?_
          refine lv_bipush (v := (-2)) hx hb dX11_varies_58 (by decide) ?_
          exact W.iret (v := (-2)) hx hb hr (fun t ht hW => ⟨_, rfl, h, ht⟩) (fun q h => by cases h) dX11_varies_60
        · have h := h.2 c_7
          refine lv_iconst (v := 1) hx hb dX11_varies_37 (by decide) ?_
          refine lv_goto (tgt := 42) hx hb dX11_varies_38 (by decide) ?_
          refine lv_istore (lv' := [(5, .int 1), (4, .int 0), (3, .null), (0, .ref (q 0 0)), (1, .int a1), (2, .int a2)]) hx hb dX11_varies_42 hl (by decide) rfl (fun ls hl => ?_)
          refine lv_aload_nN hx hb dX11_varies_44 rfl (lv_at hl 2 rfl) ?_
          refine lv_ifnullN (tgt := 58) hx hb dX11_varies_45 (by decide) ?_
          refine lv_bipush (v := (-2)) hx hb dX11_varies_58 (by decide) ?_
          exact W.iret (v := (-2)) hx hb hr (fun t ht hW => ⟨_, rfl, h, ht⟩) (fun q h => by cases h) dX11_varies_60
    · have h := h.2 c_5
      refine lv_iload_n hx hb dX11_varies_13 rfl (lv_at hl 3 rfl) ?_
      refine lv_iconst (v := 3) hx hb dX11_varies_14 (by decide) ?_
      refine lv_icmp_ge (tgt := 22) hx hb dX11_varies_15 (by decide) (fun c_8 => ?_) (fun c_8 => ?_)
      · have h := h.1 c_8
        refine lv_iconst (v := 0) hx hb dX11_varies_22 (by decide) ?_
        refine lv_istore (lv' := [(4, .int 0), (3, .null), (0, .ref (q 0 0)), (1, .int a1), (2, .int a2)]) hx hb dX11_varies_23 hl (by decide) rfl (fun ls hl => ?_)
        refine lv_iload_n hx hb dX11_varies_25 rfl (lv_at hl 4 rfl) ?_
        refine lv_bipush (v := 10) hx hb dX11_varies_26 (by decide) ?_
        refine lv_icmp_lt (tgt := 41) hx hb dX11_varies_28 (by decide) (fun c_9 => ?_) (fun c_9 => ?_)
        · have h := h.1 c_9
          refine lv_iconst (v := 0) hx hb dX11_varies_41 (by decide) ?_
          refine lv_istore (lv' := [(5, .int 0), (4, .int 0), (3, .null), (0, .ref (q 0 0)), (1, .int a1), (2, .int a2)]) hx hb dX11_varies_42 hl (by decide) rfl (fun ls hl => ?_)
          refine lv_aload_nN hx hb dX11_varies_44 rfl (lv_at hl 2 rfl) ?_
          refine lv_ifnullN (tgt := 58) hx hb dX11_varies_45 (by decide) ?_
          refine lv_bipush (v := (-2)) hx hb dX11_varies_58 (by decide) ?_
          exact W.iret (v := (-2)) hx hb hr (fun t ht hW => ⟨_, rfl, h, ht⟩) (fun q h => by cases h) dX11_varies_60
        · have h := h.2 c_9
          refine lv_iload_n hx hb dX11_varies_31 rfl (lv_at hl 4 rfl) ?_
          refine lv_bipush (v := 18) hx hb dX11_varies_32 (by decide) ?_
          refine lv_icmp_ge (tgt := 41) hx hb dX11_varies_34 (by decide) (fun c_10 => ?_) (fun c_10 => ?_)
          · have h := h.1 c_10
            refine lv_iconst (v := 0) hx hb dX11_varies_41 (by decide) ?_
            refine lv_istore (lv' := [(5, .int 0), (4, .int 0), (3, .null), (0, .ref (q 0 0)), (1, .int a1), (2, .int a2)]) hx hb dX11_varies_42 hl (by decide) rfl (fun ls hl => ?_)
            refine lv_aload_nN hx hb dX11_varies_44 rfl (lv_at hl 2 rfl) ?_
            refine lv_ifnullN (tgt := 58) hx hb dX11_varies_45 (by decide) ?_
            refine lv_bipush (v := (-2)) hx hb dX11_varies_58 (by decide) ?_
            exact W.iret (v := (-2)) hx hb hr (fun t ht hW => ⟨_, rfl, h, ht⟩) (fun q h => by cases h) dX11_varies_60
          · have h := h.2 c_10
            refine lv_iconst (v := 1) hx hb dX11_varies_37 (by decide) ?_
            refine lv_goto (tgt := 42) hx hb dX11_varies_38 (by decide) ?_
            refine lv_istore (lv' := [(5, .int 1), (4, .int 0), (3, .null), (0, .ref (q 0 0)), (1, .int a1), (2, .int a2)]) hx hb dX11_varies_42 hl (by decide) rfl (fun ls hl => ?_)
            refine lv_aload_nN hx hb dX11_varies_44 rfl (lv_at hl 2 rfl) ?_
            refine lv_ifnullN (tgt := 58) hx hb dX11_varies_45 (by decide) ?_
            refine lv_bipush (v := (-2)) hx hb dX11_varies_58 (by decide) ?_
            exact W.iret (v := (-2)) hx hb hr (fun t ht hW => ⟨_, rfl, h, ht⟩) (fun q h => by cases h) dX11_varies_60
      · have h := h.2 c_8
        refine lv_iconst (v := 1) hx hb dX11_varies_18 (by decide) ?_
        refine lv_goto (tgt := 23) hx hb dX11_varies_19 (by decide) ?_
        refine lv_istore (lv' := [(4, .int 1), (3, .null), (0, .ref (q 0 0)), (1, .int a1), (2, .int a2)]) hx hb dX11_varies_23 hl (by decide) rfl (fun ls hl => ?_)
        refine lv_iload_n hx hb dX11_varies_25 rfl (lv_at hl 4 rfl) ?_
        refine lv_bipush (v := 10) hx hb dX11_varies_26 (by decide) ?_
        refine lv_icmp_lt (tgt := 41) hx hb dX11_varies_28 (by decide) (fun c_11 => ?_) (fun c_11 => ?_)
        · have h := h.1 c_11
          refine lv_iconst (v := 0) hx hb dX11_varies_41 (by decide) ?_
          refine lv_istore (lv' := [(5, .int 0), (4, .int 1), (3, .null), (0, .ref (q 0 0)), (1, .int a1), (2, .int a2)]) hx hb dX11_varies_42 hl (by decide) rfl (fun ls hl => ?_)
          refine lv_aload_nN hx hb dX11_varies_44 rfl (lv_at hl 2 rfl) ?_
          refine lv_ifnullN (tgt := 58) hx hb dX11_varies_45 (by decide) ?_
          refine lv_bipush (v := (-2)) hx hb dX11_varies_58 (by decide) ?_
          exact W.iret (v := (-2)) hx hb hr (fun t ht hW => ⟨_, rfl, h, ht⟩) (fun q h => by cases h) dX11_varies_60
        · have h := h.2 c_11
          refine lv_iload_n hx hb dX11_varies_31 rfl (lv_at hl 4 rfl) ?_
          refine lv_bipush (v := 18) hx hb dX11_varies_32 (by decide) ?_
          refine lv_icmp_ge (tgt := 41) hx hb dX11_varies_34 (by decide) (fun c_12 => ?_) (fun c_12 => ?_)
          · have h := h.1 c_12
            refine lv_iconst (v := 0) hx hb dX11_varies_41 (by decide) ?_
            refine lv_istore (lv' := [(5, .int 0), (4, .int 1), (3, .null), (0, .ref (q 0 0)), (1, .int a1), (2, .int a2)]) hx hb dX11_varies_42 hl (by decide) rfl (fun ls hl => ?_)
            refine lv_aload_nN hx hb dX11_varies_44 rfl (lv_at hl 2 rfl) ?_
            refine lv_ifnullN (tgt := 58) hx hb dX11_varies_45 (by decide) ?_
            refine lv_bipush (v := (-2)) hx hb dX11_varies_58 (by decide) ?_
            exact W.iret (v := (-2)) hx hb hr (fun t ht hW => ⟨_, rfl, h, ht⟩) (fun q h => by cases h) dX11_varies_60
          · have h := h.2 c_12
            refine lv_iconst (v := 1) hx hb dX11_varies_37 (by decide) ?_
            refine lv_goto (tgt := 42) hx hb dX11_varies_38 (by decide) ?_
            refine lv_istore (lv' := [(5, .int 1), (4, .int 1), (3, .null), (0, .ref (q 0 0)), (1, .int a1), (2, .int a2)]) hx hb dX11_varies_42 hl (by decide) rfl (fun ls hl => ?_)
            refine lv_aload_nN hx hb dX11_varies_44 rfl (lv_at hl 2 rfl) ?_
            refine lv_ifnullN (tgt := 58) hx hb dX11_varies_45 (by decide) ?_
            refine lv_bipush (v := (-2)) hx hb dX11_varies_58 (by decide) ?_
            exact W.iret (v := (-2)) hx hb hr (fun t ht hW => ⟨_, rfl, h, ht⟩) (fun q h => by cases h) dX11_varies_60
  · have h := h.2 hn_4
    rw [show va_rf (cno q 24 r3) = .ref (q 24 (r3 : Int32).toNatClampNeg) from cn_pos hn_4]
    refine lv_astore_n (lv' := [(3, .ref (q 24 ((r3 : Int32).toNatClampNeg))), (0, .ref (q 0 0)), (1, .int a1), (2, .int a2)]) hx hb dX11_varies_8 rfl hl (by decide) rfl (fun ls hl => ?_)
    refine lv_iload_n hx hb dX11_varies_9 rfl (lv_at hl 3 rfl) ?_
    refine lv_if_lt (tgt := 22) hx hb dX11_varies_10 (by decide) (fun c_13 => ?_) (fun c_13 => ?_)
    · have h := h.1 c_13
      refine lv_iconst (v := 0) hx hb dX11_varies_22 (by decide) ?_
      refine lv_istore (lv' := [(4, .int 0), (3, .ref (q 24 ((r3 : Int32).toNatClampNeg))), (0, .ref (q 0 0)), (1, .int a1), (2, .int a2)]) hx hb dX11_varies_23 hl (by decide) rfl (fun ls hl => ?_)
      refine lv_iload_n hx hb dX11_varies_25 rfl (lv_at hl 4 rfl) ?_
      refine lv_bipush (v := 10) hx hb dX11_varies_26 (by decide) ?_
      refine lv_icmp_lt (tgt := 41) hx hb dX11_varies_28 (by decide) (fun c_14 => ?_) (fun c_14 => ?_)
      · have h := h.1 c_14
        refine lv_iconst (v := 0) hx hb dX11_varies_41 (by decide) ?_
        refine lv_istore (lv' := [(5, .int 0), (4, .int 0), (3, .ref (q 24 ((r3 : Int32).toNatClampNeg))), (0, .ref (q 0 0)), (1, .int a1), (2, .int a2)]) hx hb dX11_varies_42 hl (by decide) rfl (fun ls hl => ?_)
        refine lv_aload_n hx hb dX11_varies_44 rfl (lv_at hl 2 rfl) ?_
        refine lv_ifnull hx hb dX11_varies_45 ?_
        refine lv_iload hx hb dX11_varies_48 (lv_at hl 1 rfl) ?_
        refine lv_if_ne (tgt := 61) hx hb dX11_varies_50 (by decide) (fun c => absurd (by decide) c) (fun _ => ?_)
        refine lv_iload hx hb dX11_varies_53 (lv_at hl 0 rfl) ?_
        refine lv_if_ne (tgt := 61) hx hb dX11_varies_55 (by decide) (fun c => absurd (by decide) c) (fun _ => ?_)
        refine lv_bipush (v := (-2)) hx hb dX11_varies_58 (by decide) ?_
        exact W.iret (v := (-2)) hx hb hr (fun t ht hW => ⟨_, rfl, h, ht⟩) (fun q h => by cases h) dX11_varies_60
      · have h := h.2 c_14
        refine lv_iload_n hx hb dX11_varies_31 rfl (lv_at hl 4 rfl) ?_
        refine lv_bipush (v := 18) hx hb dX11_varies_32 (by decide) ?_
        refine lv_icmp_ge (tgt := 41) hx hb dX11_varies_34 (by decide) (fun c_15 => ?_) (fun c_15 => ?_)
        · have h := h.1 c_15
          refine lv_iconst (v := 0) hx hb dX11_varies_41 (by decide) ?_
          refine lv_istore (lv' := [(5, .int 0), (4, .int 0), (3, .ref (q 24 ((r3 : Int32).toNatClampNeg))), (0, .ref (q 0 0)), (1, .int a1), (2, .int a2)]) hx hb dX11_varies_42 hl (by decide) rfl (fun ls hl => ?_)
          refine lv_aload_n hx hb dX11_varies_44 rfl (lv_at hl 2 rfl) ?_
          refine lv_ifnull hx hb dX11_varies_45 ?_
          refine lv_iload hx hb dX11_varies_48 (lv_at hl 1 rfl) ?_
          refine lv_if_ne (tgt := 61) hx hb dX11_varies_50 (by decide) (fun c => absurd (by decide) c) (fun _ => ?_)
          refine lv_iload hx hb dX11_varies_53 (lv_at hl 0 rfl) ?_
          refine lv_if_ne (tgt := 61) hx hb dX11_varies_55 (by decide) (fun c => absurd (by decide) c) (fun _ => ?_)
          refine lv_bipush (v := (-2)) hx hb dX11_varies_58 (by decide) ?_
          exact W.iret (v := (-2)) hx hb hr (fun t ht hW => ⟨_, rfl, h, ht⟩) (fun q h => by cases h) dX11_varies_60
        · have h := h.2 c_15
          refine lv_iconst (v := 1) hx hb dX11_varies_37 (by decide) ?_
          refine lv_goto (tgt := 42) hx hb dX11_varies_38 (by decide) ?_
          refine lv_istore (lv' := [(5, .int 1), (4, .int 0), (3, .ref (q 24 ((r3 : Int32).toNatClampNeg))), (0, .ref (q 0 0)), (1, .int a1), (2, .int a2)]) hx hb dX11_varies_42 hl (by decide) rfl (fun ls hl => ?_)
          refine lv_aload_n hx hb dX11_varies_44 rfl (lv_at hl 2 rfl) ?_
          refine lv_ifnull hx hb dX11_varies_45 ?_
          refine lv_iload hx hb dX11_varies_48 (lv_at hl 1 rfl) ?_
          refine lv_if_ne (tgt := 61) hx hb dX11_varies_50 (by decide) (fun c => absurd (by decide) c) (fun _ => ?_)
          refine lv_iload hx hb dX11_varies_53 (lv_at hl 0 rfl) ?_
          refine lv_if_ne (tgt := 61) hx hb dX11_varies_55 (by decide) (fun _ => ?_) (fun c => absurd c (by decide))
          refine lv_aload_n hx hb dX11_varies_61 rfl (lv_at hl 2 rfl) ?_
          have hi_16 := h.1
          have h := h.2
          obtain ⟨p_16, hp_16⟩ := cget_24 cI cZ cP cF q S hi_16
          refine va_get (D := D) (ci := 8) (v := .ref (q 28 ((r3 : Int32).toNatClampNeg))) (C := RX8) (T := TX8) (N := 10) hx hb hts (fun _ h => List.mem_cons_of_mem _ (List.mem_append_left _ (List.mem_append_right _ h))) hown hK hP p_16 hp_16 rfl 3 (by decide) (hts (.fieldLink RX11 111 "TemplateForge$Program" "heat" "LTemplateForge$Heat;") (List.mem_of_getElem? (i := 9) rfl)) (fun _ h9 => h9) rfl dX11_varies_62 ?_
          refine lv_iload hx hb dX11_varies_65 (lv_at hl 1 rfl) ?_
          refine lv_if_eq (tgt := 74) hx hb dX11_varies_67 (by decide) (fun _ => ?_) (fun c => absurd (by decide) c)
          refine lv_iconst (v := 3) hx hb dX11_varies_74 (by decide) ?_
          refine lv_iload_n hx hb dX11_varies_75 rfl (lv_at hl 5 rfl) ?_
          refine lv_iadd hx hb dX11_varies_76 ?_
          refine lv_bipush (v := 10) hx hb dX11_varies_77 (by decide) ?_
          refine lv_isub hx hb dX11_varies_79 ?_
          have hi_17 := h.1
          have h := h.2
          obtain ⟨p_17, hp_17⟩ := cget_28 cI cZ cP cF q S hi_17
          refine vp_callSi (va_Run.run (va_runV (As := [.int ((3 + a2) - 10)]) (rest := []) ⟨hx, hb, hml, hown, hts⟩ (zd_X5_isVarying l D cI cZ cP cF q S ((r3 : Int32).toNatClampNeg) ((3 + a2) - 10)  _ h) (cwV 1 hts zg_zd_X11_varies_zd_X5_isVarying_126 rfl rfl rfl (by decide +kernel) ⟨Nat.le_of_ble_eq_true rfl, Nat.le_of_ble_eq_true rfl⟩) ⟨zCR, va_recv hK hP (ci := 5) (q0 := p_17) rfl hp_17, fun U hU hW => ⟨rfl, by rw [hU]; exact hP, hE.warm hW⟩⟩ rfl rfl hl.1 rfl (lv_room (Nat.le_of_ble_eq_true rfl)) dX11_varies_80 ⟨Nat.le_of_ble_eq_true rfl, Nat.le_of_ble_eq_true rfl⟩)) (fun r18 h => ?_)
          refine lv_if_eq (tgt := 90) hx hb dX11_varies_83 (by decide) (fun c_19 => ?_) (fun c_19 => ?_)
          · have h := h.1 c_19
            refine lv_iconst (v := 0) hx hb dX11_varies_90 (by decide) ?_
            exact W.iret (v := 0) hx hb hr (fun t ht hW => ⟨_, rfl, h, ht⟩) (fun q h => by cases h) dX11_varies_91
          · have h := h.2 c_19
            refine lv_iconst (v := 1) hx hb dX11_varies_86 (by decide) ?_
            refine lv_goto (tgt := 91) hx hb dX11_varies_87 (by decide) ?_
            exact W.iret (v := 1) hx hb hr (fun t ht hW => ⟨_, rfl, h, ht⟩) (fun q h => by cases h) dX11_varies_91
    · have h := h.2 c_13
      refine lv_iload_n hx hb dX11_varies_13 rfl (lv_at hl 3 rfl) ?_
      refine lv_iconst (v := 3) hx hb dX11_varies_14 (by decide) ?_
      refine lv_icmp_ge (tgt := 22) hx hb dX11_varies_15 (by decide) (fun c_20 => ?_) (fun c_20 => ?_)
      · have h := h.1 c_20
        refine lv_iconst (v := 0) hx hb dX11_varies_22 (by decide) ?_
        refine lv_istore (lv' := [(4, .int 0), (3, .ref (q 24 ((r3 : Int32).toNatClampNeg))), (0, .ref (q 0 0)), (1, .int a1), (2, .int a2)]) hx hb dX11_varies_23 hl (by decide) rfl (fun ls hl => ?_)
        refine lv_iload_n hx hb dX11_varies_25 rfl (lv_at hl 4 rfl) ?_
        refine lv_bipush (v := 10) hx hb dX11_varies_26 (by decide) ?_
        refine lv_icmp_lt (tgt := 41) hx hb dX11_varies_28 (by decide) (fun c_21 => ?_) (fun c_21 => ?_)
        · have h := h.1 c_21
          refine lv_iconst (v := 0) hx hb dX11_varies_41 (by decide) ?_
          refine lv_istore (lv' := [(5, .int 0), (4, .int 0), (3, .ref (q 24 ((r3 : Int32).toNatClampNeg))), (0, .ref (q 0 0)), (1, .int a1), (2, .int a2)]) hx hb dX11_varies_42 hl (by decide) rfl (fun ls hl => ?_)
          refine lv_aload_n hx hb dX11_varies_44 rfl (lv_at hl 2 rfl) ?_
          refine lv_ifnull hx hb dX11_varies_45 ?_
          refine lv_iload hx hb dX11_varies_48 (lv_at hl 1 rfl) ?_
          refine lv_if_ne (tgt := 61) hx hb dX11_varies_50 (by decide) (fun c => absurd (by decide) c) (fun _ => ?_)
          refine lv_iload hx hb dX11_varies_53 (lv_at hl 0 rfl) ?_
          refine lv_if_ne (tgt := 61) hx hb dX11_varies_55 (by decide) (fun c => absurd (by decide) c) (fun _ => ?_)
          refine lv_bipush (v := (-2)) hx hb dX11_varies_58 (by decide) ?_
          exact W.iret (v := (-2)) hx hb hr (fun t ht hW => ⟨_, rfl, h, ht⟩) (fun q h => by cases h) dX11_varies_60
        · have h := h.2 c_21
          refine lv_iload_n hx hb dX11_varies_31 rfl (lv_at hl 4 rfl) ?_
          refine lv_bipush (v := 18) hx hb dX11_varies_32 (by decide) ?_
          refine lv_icmp_ge (tgt := 41) hx hb dX11_varies_34 (by decide) (fun c_22 => ?_) (fun c_22 => ?_)
          · have h := h.1 c_22
            refine lv_iconst (v := 0) hx hb dX11_varies_41 (by decide) ?_
            refine lv_istore (lv' := [(5, .int 0), (4, .int 0), (3, .ref (q 24 ((r3 : Int32).toNatClampNeg))), (0, .ref (q 0 0)), (1, .int a1), (2, .int a2)]) hx hb dX11_varies_42 hl (by decide) rfl (fun ls hl => ?_)
            refine lv_aload_n hx hb dX11_varies_44 rfl (lv_at hl 2 rfl) ?_
            refine lv_ifnull hx hb dX11_varies_45 ?_
            refine lv_iload hx hb dX11_varies_48 (lv_at hl 1 rfl) ?_
            refine lv_if_ne (tgt := 61) hx hb dX11_varies_50 (by decide) (fun c => absurd (by decide) c) (fun _ => ?_)
            refine lv_iload hx hb dX11_varies_53 (lv_at hl 0 rfl) ?_
            refine lv_if_ne (tgt := 61) hx hb dX11_varies_55 (by decide) (fun c => absurd (by decide) c) (fun _ => ?_)
            refine lv_bipush (v := (-2)) hx hb dX11_varies_58 (by decide) ?_
            exact W.iret (v := (-2)) hx hb hr (fun t ht hW => ⟨_, rfl, h, ht⟩) (fun q h => by cases h) dX11_varies_60
          · have h := h.2 c_22
            refine lv_iconst (v := 1) hx hb dX11_varies_37 (by decide) ?_
            refine lv_goto (tgt := 42) hx hb dX11_varies_38 (by decide) ?_
            refine lv_istore (lv' := [(5, .int 1), (4, .int 0), (3, .ref (q 24 ((r3 : Int32).toNatClampNeg))), (0, .ref (q 0 0)), (1, .int a1), (2, .int a2)]) hx hb dX11_varies_42 hl (by decide) rfl (fun ls hl => ?_)
            refine lv_aload_n hx hb dX11_varies_44 rfl (lv_at hl 2 rfl) ?_
            refine lv_ifnull hx hb dX11_varies_45 ?_
            refine lv_iload hx hb dX11_varies_48 (lv_at hl 1 rfl) ?_
            refine lv_if_ne (tgt := 61) hx hb dX11_varies_50 (by decide) (fun c => absurd (by decide) c) (fun _ => ?_)
            refine lv_iload hx hb dX11_varies_53 (lv_at hl 0 rfl) ?_
            refine lv_if_ne (tgt := 61) hx hb dX11_varies_55 (by decide) (fun _ => ?_) (fun c => absurd c (by decide))
            refine lv_aload_n hx hb dX11_varies_61 rfl (lv_at hl 2 rfl) ?_
            have hi_23 := h.1
            have h := h.2
            obtain ⟨p_23, hp_23⟩ := cget_24 cI cZ cP cF q S hi_23
            refine va_get (D := D) (ci := 8) (v := .ref (q 28 ((r3 : Int32).toNatClampNeg))) (C := RX8) (T := TX8) (N := 10) hx hb hts (fun _ h => List.mem_cons_of_mem _ (List.mem_append_left _ (List.mem_append_right _ h))) hown hK hP p_23 hp_23 rfl 3 (by decide) (hts (.fieldLink RX11 111 "TemplateForge$Program" "heat" "LTemplateForge$Heat;") (List.mem_of_getElem? (i := 9) rfl)) (fun _ h9 => h9) rfl dX11_varies_62 ?_
            refine lv_iload hx hb dX11_varies_65 (lv_at hl 1 rfl) ?_
            refine lv_if_eq (tgt := 74) hx hb dX11_varies_67 (by decide) (fun _ => ?_) (fun c => absurd (by decide) c)
            refine lv_iconst (v := 3) hx hb dX11_varies_74 (by decide) ?_
            refine lv_iload_n hx hb dX11_varies_75 rfl (lv_at hl 5 rfl) ?_
            refine lv_iadd hx hb dX11_varies_76 ?_
            refine lv_bipush (v := 10) hx hb dX11_varies_77 (by decide) ?_
            refine lv_isub hx hb dX11_varies_79 ?_
            have hi_24 := h.1
            have h := h.2
            obtain ⟨p_24, hp_24⟩ := cget_28 cI cZ cP cF q S hi_24
            refine vp_callSi (va_Run.run (va_runV (As := [.int ((3 + a2) - 10)]) (rest := []) ⟨hx, hb, hml, hown, hts⟩ (zd_X5_isVarying l D cI cZ cP cF q S ((r3 : Int32).toNatClampNeg) ((3 + a2) - 10)  _ h) (cwV 1 hts zg_zd_X11_varies_zd_X5_isVarying_126 rfl rfl rfl (by decide +kernel) ⟨Nat.le_of_ble_eq_true rfl, Nat.le_of_ble_eq_true rfl⟩) ⟨zCR, va_recv hK hP (ci := 5) (q0 := p_24) rfl hp_24, fun U hU hW => ⟨rfl, by rw [hU]; exact hP, hE.warm hW⟩⟩ rfl rfl hl.1 rfl (lv_room (Nat.le_of_ble_eq_true rfl)) dX11_varies_80 ⟨Nat.le_of_ble_eq_true rfl, Nat.le_of_ble_eq_true rfl⟩)) (fun r25 h => ?_)
            refine lv_if_eq (tgt := 90) hx hb dX11_varies_83 (by decide) (fun c_26 => ?_) (fun c_26 => ?_)
            · have h := h.1 c_26
              refine lv_iconst (v := 0) hx hb dX11_varies_90 (by decide) ?_
              exact W.iret (v := 0) hx hb hr (fun t ht hW => ⟨_, rfl, h, ht⟩) (fun q h => by cases h) dX11_varies_91
            · have h := h.2 c_26
              refine lv_iconst (v := 1) hx hb dX11_varies_86 (by decide) ?_
              refine lv_goto (tgt := 91) hx hb dX11_varies_87 (by decide) ?_
              exact W.iret (v := 1) hx hb hr (fun t ht hW => ⟨_, rfl, h, ht⟩) (fun q h => by cases h) dX11_varies_91
      · have h := h.2 c_20
        refine lv_iconst (v := 1) hx hb dX11_varies_18 (by decide) ?_
        refine lv_goto (tgt := 23) hx hb dX11_varies_19 (by decide) ?_
        refine lv_istore (lv' := [(4, .int 1), (3, .ref (q 24 ((r3 : Int32).toNatClampNeg))), (0, .ref (q 0 0)), (1, .int a1), (2, .int a2)]) hx hb dX11_varies_23 hl (by decide) rfl (fun ls hl => ?_)
        refine lv_iload_n hx hb dX11_varies_25 rfl (lv_at hl 4 rfl) ?_
        refine lv_bipush (v := 10) hx hb dX11_varies_26 (by decide) ?_
        refine lv_icmp_lt (tgt := 41) hx hb dX11_varies_28 (by decide) (fun c_27 => ?_) (fun c_27 => ?_)
        · have h := h.1 c_27
          refine lv_iconst (v := 0) hx hb dX11_varies_41 (by decide) ?_
          refine lv_istore (lv' := [(5, .int 0), (4, .int 1), (3, .ref (q 24 ((r3 : Int32).toNatClampNeg))), (0, .ref (q 0 0)), (1, .int a1), (2, .int a2)]) hx hb dX11_varies_42 hl (by decide) rfl (fun ls hl => ?_)
          refine lv_aload_n hx hb dX11_varies_44 rfl (lv_at hl 2 rfl) ?_
          refine lv_ifnull hx hb dX11_varies_45 ?_
          refine lv_iload hx hb dX11_varies_48 (lv_at hl 1 rfl) ?_
          refine lv_if_ne (tgt := 61) hx hb dX11_varies_50 (by decide) (fun _ => ?_) (fun c => absurd c (by decide))
          refine lv_aload_n hx hb dX11_varies_61 rfl (lv_at hl 2 rfl) ?_
          have hi_28 := h.1
          have h := h.2
          obtain ⟨p_28, hp_28⟩ := cget_24 cI cZ cP cF q S hi_28
          refine va_get (D := D) (ci := 8) (v := .ref (q 28 ((r3 : Int32).toNatClampNeg))) (C := RX8) (T := TX8) (N := 10) hx hb hts (fun _ h => List.mem_cons_of_mem _ (List.mem_append_left _ (List.mem_append_right _ h))) hown hK hP p_28 hp_28 rfl 3 (by decide) (hts (.fieldLink RX11 111 "TemplateForge$Program" "heat" "LTemplateForge$Heat;") (List.mem_of_getElem? (i := 9) rfl)) (fun _ h9 => h9) rfl dX11_varies_62 ?_
          refine lv_iload hx hb dX11_varies_65 (lv_at hl 1 rfl) ?_
          refine lv_if_eq (tgt := 74) hx hb dX11_varies_67 (by decide) (fun c => absurd c (by decide)) (fun _ => ?_)
          refine lv_iload_n hx hb dX11_varies_70 rfl (lv_at hl 5 rfl) ?_
          refine lv_goto (tgt := 80) hx hb dX11_varies_71 (by decide) ?_
          have hi_29 := h.1
          have h := h.2
          obtain ⟨p_29, hp_29⟩ := cget_28 cI cZ cP cF q S hi_29
          refine vp_callSi (va_Run.run (va_runV (As := [.int a2]) (rest := []) ⟨hx, hb, hml, hown, hts⟩ (zd_X5_isVarying l D cI cZ cP cF q S ((r3 : Int32).toNatClampNeg) a2  _ h) (cwV 1 hts zg_zd_X11_varies_zd_X5_isVarying_126 rfl rfl rfl (by decide +kernel) ⟨Nat.le_of_ble_eq_true rfl, Nat.le_of_ble_eq_true rfl⟩) ⟨zCR, va_recv hK hP (ci := 5) (q0 := p_29) rfl hp_29, fun U hU hW => ⟨rfl, by rw [hU]; exact hP, hE.warm hW⟩⟩ rfl rfl hl.1 rfl (lv_room (Nat.le_of_ble_eq_true rfl)) dX11_varies_80 ⟨Nat.le_of_ble_eq_true rfl, Nat.le_of_ble_eq_true rfl⟩)) (fun r30 h => ?_)
          refine lv_if_eq (tgt := 90) hx hb dX11_varies_83 (by decide) (fun c_31 => ?_) (fun c_31 => ?_)
          · have h := h.1 c_31
            refine lv_iconst (v := 0) hx hb dX11_varies_90 (by decide) ?_
            exact W.iret (v := 0) hx hb hr (fun t ht hW => ⟨_, rfl, h, ht⟩) (fun q h => by cases h) dX11_varies_91
          · have h := h.2 c_31
            refine lv_iconst (v := 1) hx hb dX11_varies_86 (by decide) ?_
            refine lv_goto (tgt := 91) hx hb dX11_varies_87 (by decide) ?_
            exact W.iret (v := 1) hx hb hr (fun t ht hW => ⟨_, rfl, h, ht⟩) (fun q h => by cases h) dX11_varies_91
        · have h := h.2 c_27
          refine lv_iload_n hx hb dX11_varies_31 rfl (lv_at hl 4 rfl) ?_
          refine lv_bipush (v := 18) hx hb dX11_varies_32 (by decide) ?_
          refine lv_icmp_ge (tgt := 41) hx hb dX11_varies_34 (by decide) (fun c_32 => ?_) (fun c_32 => ?_)
          · have h := h.1 c_32
            refine lv_iconst (v := 0) hx hb dX11_varies_41 (by decide) ?_
            refine lv_istore (lv' := [(5, .int 0), (4, .int 1), (3, .ref (q 24 ((r3 : Int32).toNatClampNeg))), (0, .ref (q 0 0)), (1, .int a1), (2, .int a2)]) hx hb dX11_varies_42 hl (by decide) rfl (fun ls hl => ?_)
            refine lv_aload_n hx hb dX11_varies_44 rfl (lv_at hl 2 rfl) ?_
            refine lv_ifnull hx hb dX11_varies_45 ?_
            refine lv_iload hx hb dX11_varies_48 (lv_at hl 1 rfl) ?_
            refine lv_if_ne (tgt := 61) hx hb dX11_varies_50 (by decide) (fun _ => ?_) (fun c => absurd c (by decide))
            refine lv_aload_n hx hb dX11_varies_61 rfl (lv_at hl 2 rfl) ?_
            have hi_33 := h.1
            have h := h.2
            obtain ⟨p_33, hp_33⟩ := cget_24 cI cZ cP cF q S hi_33
            refine va_get (D := D) (ci := 8) (v := .ref (q 28 ((r3 : Int32).toNatClampNeg))) (C := RX8) (T := TX8) (N := 10) hx hb hts (fun _ h => List.mem_cons_of_mem _ (List.mem_append_left _ (List.mem_append_right _ h))) hown hK hP p_33 hp_33 rfl 3 (by decide) (hts (.fieldLink RX11 111 "TemplateForge$Program" "heat" "LTemplateForge$Heat;") (List.mem_of_getElem? (i := 9) rfl)) (fun _ h9 => h9) rfl dX11_varies_62 ?_
            refine lv_iload hx hb dX11_varies_65 (lv_at hl 1 rfl) ?_
            refine lv_if_eq (tgt := 74) hx hb dX11_varies_67 (by decide) (fun c => absurd c (by decide)) (fun _ => ?_)
            refine lv_iload_n hx hb dX11_varies_70 rfl (lv_at hl 5 rfl) ?_
            refine lv_goto (tgt := 80) hx hb dX11_varies_71 (by decide) ?_
            have hi_34 := h.1
            have h := h.2
            obtain ⟨p_34, hp_34⟩ := cget_28 cI cZ cP cF q S hi_34
            refine vp_callSi (va_Run.run (va_runV (As := [.int a2]) (rest := []) ⟨hx, hb, hml, hown, hts⟩ (zd_X5_isVarying l D cI cZ cP cF q S ((r3 : Int32).toNatClampNeg) a2  _ h) (cwV 1 hts zg_zd_X11_varies_zd_X5_isVarying_126 rfl rfl rfl (by decide +kernel) ⟨Nat.le_of_ble_eq_true rfl, Nat.le_of_ble_eq_true rfl⟩) ⟨zCR, va_recv hK hP (ci := 5) (q0 := p_34) rfl hp_34, fun U hU hW => ⟨rfl, by rw [hU]; exact hP, hE.warm hW⟩⟩ rfl rfl hl.1 rfl (lv_room (Nat.le_of_ble_eq_true rfl)) dX11_varies_80 ⟨Nat.le_of_ble_eq_true rfl, Nat.le_of_ble_eq_true rfl⟩)) (fun r35 h => ?_)
            refine lv_if_eq (tgt := 90) hx hb dX11_varies_83 (by decide) (fun c_36 => ?_) (fun c_36 => ?_)
            · have h := h.1 c_36
              refine lv_iconst (v := 0) hx hb dX11_varies_90 (by decide) ?_
              exact W.iret (v := 0) hx hb hr (fun t ht hW => ⟨_, rfl, h, ht⟩) (fun q h => by cases h) dX11_varies_91
            · have h := h.2 c_36
              refine lv_iconst (v := 1) hx hb dX11_varies_86 (by decide) ?_
              refine lv_goto (tgt := 91) hx hb dX11_varies_87 (by decide) ?_
              exact W.iret (v := 1) hx hb hr (fun t ht hW => ⟨_, rfl, h, ht⟩) (fun q h => by cases h) dX11_varies_91
          · have h := h.2 c_32
            refine lv_iconst (v := 1) hx hb dX11_varies_37 (by decide) ?_
            refine lv_goto (tgt := 42) hx hb dX11_varies_38 (by decide) ?_
            refine lv_istore (lv' := [(5, .int 1), (4, .int 1), (3, .ref (q 24 ((r3 : Int32).toNatClampNeg))), (0, .ref (q 0 0)), (1, .int a1), (2, .int a2)]) hx hb dX11_varies_42 hl (by decide) rfl (fun ls hl => ?_)
            refine lv_aload_n hx hb dX11_varies_44 rfl (lv_at hl 2 rfl) ?_
            refine lv_ifnull hx hb dX11_varies_45 ?_
            refine lv_iload hx hb dX11_varies_48 (lv_at hl 1 rfl) ?_
            refine lv_if_ne (tgt := 61) hx hb dX11_varies_50 (by decide) (fun _ => ?_) (fun c => absurd c (by decide))
            refine lv_aload_n hx hb dX11_varies_61 rfl (lv_at hl 2 rfl) ?_
            have hi_37 := h.1
            have h := h.2
            obtain ⟨p_37, hp_37⟩ := cget_24 cI cZ cP cF q S hi_37
            refine va_get (D := D) (ci := 8) (v := .ref (q 28 ((r3 : Int32).toNatClampNeg))) (C := RX8) (T := TX8) (N := 10) hx hb hts (fun _ h => List.mem_cons_of_mem _ (List.mem_append_left _ (List.mem_append_right _ h))) hown hK hP p_37 hp_37 rfl 3 (by decide) (hts (.fieldLink RX11 111 "TemplateForge$Program" "heat" "LTemplateForge$Heat;") (List.mem_of_getElem? (i := 9) rfl)) (fun _ h9 => h9) rfl dX11_varies_62 ?_
            refine lv_iload hx hb dX11_varies_65 (lv_at hl 1 rfl) ?_
            refine lv_if_eq (tgt := 74) hx hb dX11_varies_67 (by decide) (fun c => absurd c (by decide)) (fun _ => ?_)
            refine lv_iload_n hx hb dX11_varies_70 rfl (lv_at hl 5 rfl) ?_
            refine lv_goto (tgt := 80) hx hb dX11_varies_71 (by decide) ?_
            have hi_38 := h.1
            have h := h.2
            obtain ⟨p_38, hp_38⟩ := cget_28 cI cZ cP cF q S hi_38
            refine vp_callSi (va_Run.run (va_runV (As := [.int a2]) (rest := []) ⟨hx, hb, hml, hown, hts⟩ (zd_X5_isVarying l D cI cZ cP cF q S ((r3 : Int32).toNatClampNeg) a2  _ h) (cwV 1 hts zg_zd_X11_varies_zd_X5_isVarying_126 rfl rfl rfl (by decide +kernel) ⟨Nat.le_of_ble_eq_true rfl, Nat.le_of_ble_eq_true rfl⟩) ⟨zCR, va_recv hK hP (ci := 5) (q0 := p_38) rfl hp_38, fun U hU hW => ⟨rfl, by rw [hU]; exact hP, hE.warm hW⟩⟩ rfl rfl hl.1 rfl (lv_room (Nat.le_of_ble_eq_true rfl)) dX11_varies_80 ⟨Nat.le_of_ble_eq_true rfl, Nat.le_of_ble_eq_true rfl⟩)) (fun r39 h => ?_)
            refine lv_if_eq (tgt := 90) hx hb dX11_varies_83 (by decide) (fun c_40 => ?_) (fun c_40 => ?_)
            · have h := h.1 c_40
              refine lv_iconst (v := 0) hx hb dX11_varies_90 (by decide) ?_
              exact W.iret (v := 0) hx hb hr (fun t ht hW => ⟨_, rfl, h, ht⟩) (fun q h => by cases h) dX11_varies_91
            · have h := h.2 c_40
              refine lv_iconst (v := 1) hx hb dX11_varies_86 (by decide) ?_
              refine lv_goto (tgt := 91) hx hb dX11_varies_87 (by decide) ?_
              exact W.iret (v := 1) hx hb hr (fun t ht hW => ⟨_, rfl, h, ht⟩) (fun q h => by cases h) dX11_varies_91

def wp_X11_depth (S : CST) (a1 : Int32) (a2 : Int32) (Post : Int32 → Prop) : Prop :=
  wp_X0_at S a1 (fun r3 => ((r3 < 0) → (Post (-2))) ∧ ((¬ (r3 < 0)) → (cin S 24 ((r3 : Int32).toNatClampNeg) ∧ (wp_X8_has S ((r3 : Int32).toNatClampNeg) a2 (fun r6 => ((¬ ((r6 : Int32) = 0)) → (cin S 24 ((r3 : Int32).toNatClampNeg) ∧ (wp_X8_isRight S ((r3 : Int32).toNatClampNeg) (fun r9 => (((r9 : Int32) = 0) → (Post (-1))) ∧ ((¬ ((r9 : Int32) = 0)) → (cin S 24 ((r3 : Int32).toNatClampNeg) ∧ (wp_X8_depthAt S ((r3 : Int32).toNatClampNeg) a2 (fun r12 => Post r12)))))))) ∧ (((r6 : Int32) = 0) → (Post (-2))))))))
def zw_zd_X11_depth_w0 : List Cond := [.fieldLink RX11 15 "TemplateForge" "book" "LTemplateForge$Book;", .code yX0_at cX0_at 2 (some (.object "TemplateForge$Program")), .fieldLink RX0 17 "TemplateForge$Book" "told" "I", .fieldLink RX0 11 "TemplateForge$Book" "programs" "[LTemplateForge$Program;", .methodLink RX11 48 yX0_at, .instanceMethod yX0_at, .selects RX0 yX0_at yX0_at, .initialized RX0, .code yX8_has cX8_has 2 (some .boolean), .fieldLink RX8 41 "TemplateForge$Program" "length" "I", .methodLink RX11 130 yX8_has, .instanceMethod yX8_has, .selects RX8 yX8_has yX8_has, .initialized RX8, .code yX8_isRight cX8_isRight 1 (some .boolean), .fieldLink RX8 28 "TemplateForge$Program" "deepest" "I"]
def zw_zd_X11_depth_w1 : List Cond := [.methodLink RX11 52 yX8_isRight, .instanceMethod yX8_isRight, .selects RX8 yX8_isRight yX8_isRight, .code yX8_depthAt cX8_depthAt 2 (some .int), .methodLink RX8 44 yX8_has, .fieldLink RX8 25 "TemplateForge$Program" "depths" "[I", .methodLink RX11 133 yX8_depthAt, .instanceMethod yX8_depthAt, .selects RX8 yX8_depthAt yX8_depthAt]
def zw_zd_X11_depth : List Cond := .code yX11_depth cX11_depth 4 (some .int) :: ((zw_zd_X11_depth_w0 ++ (zw_zd_X11_depth_w1)) ++ wsX110 ++ wsX00 ++ wsX80)
set_option maxRecDepth 100000 in
theorem zg_zd_X11_depth_zd_X0_at_48_a : GoodIn zw_zd_X11_depth [.methodLink RX11 48 yX0_at, .instanceMethod yX0_at, .selects RX0 yX0_at yX0_at, .initialized RX0] := goodIn_r _ [5, 6, 7, 8] rfl (by decide +kernel)
set_option maxRecDepth 100000 in
theorem zg_zd_X11_depth_zd_X0_at_48_c : GoodIn zw_zd_X11_depth [.code yX0_at cX0_at 2 (some (.object "TemplateForge$Program"))] := goodIn_r _ [2] rfl (by decide +kernel)
set_option maxRecDepth 100000 in
theorem zg_zd_X11_depth_zd_X0_at_48_0 : GoodIn zw_zd_X11_depth zw_zd_X0_at_w0 := goodIn_r _ [3, 4] rfl (by decide +kernel)
theorem zg_zd_X11_depth_zd_X0_at_48 : GoodIn zw_zd_X11_depth (wsV RX11 48 RX0 yX0_at zw_zd_X0_at) := goodIn_app zg_zd_X11_depth_zd_X0_at_48_a (goodIn_ca (a := (zw_zd_X0_at_w0)) (show GoodIn zw_zd_X11_depth (.code yX0_at cX0_at 2 (some (.object "TemplateForge$Program")) :: (zw_zd_X0_at_w0)) from goodIn_app zg_zd_X11_depth_zd_X0_at_48_c (zg_zd_X11_depth_zd_X0_at_48_0)) (fun w h => ⟨(fun _ h => List.mem_cons_of_mem _ (List.mem_append_left _ (List.mem_append_right _ h))) w h, good_of_word (List.all_eq_true.mp zgw_X0 w h)⟩))
set_option maxRecDepth 100000 in
theorem zg_zd_X11_depth_zd_X8_has_130_a : GoodIn zw_zd_X11_depth [.methodLink RX11 130 yX8_has, .instanceMethod yX8_has, .selects RX8 yX8_has yX8_has, .initialized RX8] := goodIn_r _ [11, 12, 13, 14] rfl (by decide +kernel)
set_option maxRecDepth 100000 in
theorem zg_zd_X11_depth_zd_X8_has_130_c : GoodIn zw_zd_X11_depth [.code yX8_has cX8_has 2 (some .boolean)] := goodIn_r _ [9] rfl (by decide +kernel)
set_option maxRecDepth 100000 in
theorem zg_zd_X11_depth_zd_X8_has_130_0 : GoodIn zw_zd_X11_depth zw_zd_X8_has_w0 := goodIn_r _ [10] rfl (by decide +kernel)
theorem zg_zd_X11_depth_zd_X8_has_130 : GoodIn zw_zd_X11_depth (wsV RX11 130 RX8 yX8_has zw_zd_X8_has) := goodIn_app zg_zd_X11_depth_zd_X8_has_130_a (goodIn_ca (a := (zw_zd_X8_has_w0)) (show GoodIn zw_zd_X11_depth (.code yX8_has cX8_has 2 (some .boolean) :: (zw_zd_X8_has_w0)) from goodIn_app zg_zd_X11_depth_zd_X8_has_130_c (zg_zd_X11_depth_zd_X8_has_130_0)) (fun w h => ⟨(fun _ h => List.mem_cons_of_mem _ (List.mem_append_right _ h)) w h, good_of_word (List.all_eq_true.mp zgw_X8 w h)⟩))
set_option maxRecDepth 100000 in
theorem zg_zd_X11_depth_zd_X8_isRight_52_a : GoodIn zw_zd_X11_depth [.methodLink RX11 52 yX8_isRight, .instanceMethod yX8_isRight, .selects RX8 yX8_isRight yX8_isRight, .initialized RX8] := goodIn_r _ [17, 18, 19, 14] rfl (by decide +kernel)
set_option maxRecDepth 100000 in
theorem zg_zd_X11_depth_zd_X8_isRight_52_c : GoodIn zw_zd_X11_depth [.code yX8_isRight cX8_isRight 1 (some .boolean)] := goodIn_r _ [15] rfl (by decide +kernel)
set_option maxRecDepth 100000 in
theorem zg_zd_X11_depth_zd_X8_isRight_52_0 : GoodIn zw_zd_X11_depth zw_zd_X8_isRight_w0 := goodIn_r _ [16] rfl (by decide +kernel)
theorem zg_zd_X11_depth_zd_X8_isRight_52 : GoodIn zw_zd_X11_depth (wsV RX11 52 RX8 yX8_isRight zw_zd_X8_isRight) := goodIn_app zg_zd_X11_depth_zd_X8_isRight_52_a (goodIn_ca (a := (zw_zd_X8_isRight_w0)) (show GoodIn zw_zd_X11_depth (.code yX8_isRight cX8_isRight 1 (some .boolean) :: (zw_zd_X8_isRight_w0)) from goodIn_app zg_zd_X11_depth_zd_X8_isRight_52_c (zg_zd_X11_depth_zd_X8_isRight_52_0)) (fun w h => ⟨(fun _ h => List.mem_cons_of_mem _ (List.mem_append_right _ h)) w h, good_of_word (List.all_eq_true.mp zgw_X8 w h)⟩))
set_option maxRecDepth 100000 in
theorem zg_zd_X11_depth_zd_X8_depthAt_133_a : GoodIn zw_zd_X11_depth [.methodLink RX11 133 yX8_depthAt, .instanceMethod yX8_depthAt, .selects RX8 yX8_depthAt yX8_depthAt, .initialized RX8] := goodIn_r _ [23, 24, 25, 14] rfl (by decide +kernel)
set_option maxRecDepth 100000 in
theorem zg_zd_X11_depth_zd_X8_depthAt_133_c : GoodIn zw_zd_X11_depth [.code yX8_depthAt cX8_depthAt 2 (some .int)] := goodIn_r _ [20] rfl (by decide +kernel)
set_option maxRecDepth 100000 in
theorem zg_zd_X11_depth_zd_X8_depthAt_133_0 : GoodIn zw_zd_X11_depth zw_zd_X8_depthAt_w0 := goodIn_r _ [9, 10, 21, 12, 13, 14, 22] rfl (by decide +kernel)
theorem zg_zd_X11_depth_zd_X8_depthAt_133 : GoodIn zw_zd_X11_depth (wsV RX11 133 RX8 yX8_depthAt zw_zd_X8_depthAt) := goodIn_app zg_zd_X11_depth_zd_X8_depthAt_133_a (goodIn_ca (a := (zw_zd_X8_depthAt_w0)) (show GoodIn zw_zd_X11_depth (.code yX8_depthAt cX8_depthAt 2 (some .int) :: (zw_zd_X8_depthAt_w0)) from goodIn_app zg_zd_X11_depth_zd_X8_depthAt_133_c (zg_zd_X11_depth_zd_X8_depthAt_133_0)) (fun w h => ⟨(fun _ h => List.mem_cons_of_mem _ (List.mem_append_right _ h)) w h, good_of_word (List.all_eq_true.mp zgw_X8 w h)⟩))
set_option maxHeartbeats 16000000 in
set_option maxRecDepth 100000 in
theorem zd_X11_depth (l : Launch) (D : va_G) (cI cZ cP cF : Nat) (q : Nat → Nat → Nat) (S : CST) (a1 : Int32) (a2 : Int32) (Post : Int32 → Prop) (h : wp_X11_depth S a1 a2 Post) : Met l yX11_depth zw_zd_X11_depth ({ frames := 2, cells := 0, slots := 0, locals := 42 }) (va_Pc [.ref (q 0 0), .int a1, .int a2] (fun U => va_P D vwCl (cW cI cZ cP cF q S) U.heap ∧ zF D cI cZ cP cF U)) (vp_Si Post) 0 0 (fun _ => False) := by
  unfold wp_X11_depth at h
  refine Met.ofW (cc := cX11_depth) (maxL := 4) (ret := (some .int)) (by decide) rfl ?_
  intro p e s m args below meth c s₁ B hml hv
  obtain ⟨rfl, hP, hE⟩ := hv
  have hx := B.exec
  have hb := B.bytes
  have hr := B.returns
  have hts := atoms_spec (ws := zw_zd_X11_depth) B.pre
  have hown : s.vm.findClass RX11 = some m.cls := findClass_of_methodNamed B.named
  have hlocks := B.notSynchronized
  have hK := hE.k
  have hl := lv_entry ([.ref (q 0 0), .int a1, .int a2]) (n := 4) (Nat.le_of_ble_eq_true rfl)
  rw [lg_entry_eq]
  generalize (lg_sl ([.ref (q 0 0), .int a1, .int a2]) ++ List.replicate (4 - (lg_sl ([.ref (q 0 0), .int a1, .int a2])).length) Slot.unset).toArray = ls at hl ⊢
  have hl : lv_has ls 4 [(0, .ref (q 0 0)), (1, .int a1), (2, .int a2)] := hl
  refine lv_aload_n hx hb dX11_depth_0 rfl (lv_at hl 0 rfl) ?_
  obtain ⟨p_1, hp_1⟩ := cget_0 cI cZ cP cF q S
  have hi_1 : cin S 0 0 := Or.inl ⟨by decide, rfl⟩
  refine va_get (D := D) (ci := 11) (v := .ref (q 1 0)) (C := RX11) (T := TX11) (N := 4) hx hb hts (fun _ h => List.mem_cons_of_mem _ (List.mem_append_left _ (List.mem_append_left _ (List.mem_append_right _ h)))) hown hK hP p_1 hp_1 rfl 0 (by decide) (hts (.fieldLink RX11 15 "TemplateForge" "book" "LTemplateForge$Book;") (List.mem_of_getElem? (i := 1) rfl)) (fun _ h9 => h9) rfl dX11_depth_1 ?_
  refine lv_iload_n hx hb dX11_depth_4 rfl (lv_at hl 1 rfl) ?_
  obtain ⟨p_2, hp_2⟩ := cget_1 cI cZ cP cF q S
  have hi_2 : cin S 1 0 := Or.inl ⟨by decide, rfl⟩
  refine va_csq (va_Run.run (va_runV (As := [.int a1]) (rest := []) ⟨hx, hb, hml, hown, hts⟩ (zd_X0_at l D cI cZ cP cF q S a1  _ h) (cwV 1 hts zg_zd_X11_depth_zd_X0_at_48 rfl rfl rfl (by decide +kernel) ⟨Nat.le_of_ble_eq_true rfl, Nat.le_of_ble_eq_true rfl⟩) ⟨zCR, va_recv hK hP (ci := 0) (q0 := p_2) rfl hp_2, fun U hU hW => ⟨rfl, by rw [hU]; exact hP, hE.warm hW⟩⟩ rfl rfl hl.1 rfl (lv_room (Nat.le_of_ble_eq_true rfl)) dX11_depth_5 ⟨Nat.le_of_ble_eq_true rfl, Nat.le_of_ble_eq_true rfl⟩)) (fun o_3 ho_3 => ?_)
  obtain ⟨r3, rfl, h⟩ := ho_3
  by_cases hn_4 : r3 < 0
  · have h := h.1 hn_4
    rw [show va_rf (cno q 24 r3) = .null from cn_neg hn_4]
    refine lv_astore_nN (lv' := [(3, .null), (0, .ref (q 0 0)), (1, .int a1), (2, .int a2)]) hx hb dX11_depth_8 rfl hl (by decide) rfl (fun ls hl => ?_)
    refine lv_aload_nN hx hb dX11_depth_9 rfl (lv_at hl 0 rfl) ?_
    refine lv_ifnullN (tgt := 21) hx hb dX11_depth_10 (by decide) ?_
    refine lv_bipush (v := (-2)) hx hb dX11_depth_21 (by decide) ?_
    exact W.iret (v := (-2)) hx hb hr (fun t ht hW => ⟨_, rfl, h, ht⟩) (fun q h => by cases h) dX11_depth_23
  · have h := h.2 hn_4
    rw [show va_rf (cno q 24 r3) = .ref (q 24 (r3 : Int32).toNatClampNeg) from cn_pos hn_4]
    refine lv_astore_n (lv' := [(3, .ref (q 24 ((r3 : Int32).toNatClampNeg))), (0, .ref (q 0 0)), (1, .int a1), (2, .int a2)]) hx hb dX11_depth_8 rfl hl (by decide) rfl (fun ls hl => ?_)
    refine lv_aload_n hx hb dX11_depth_9 rfl (lv_at hl 0 rfl) ?_
    refine lv_ifnull hx hb dX11_depth_10 ?_
    refine lv_aload_n hx hb dX11_depth_13 rfl (lv_at hl 0 rfl) ?_
    refine lv_iload_n hx hb dX11_depth_14 rfl (lv_at hl 3 rfl) ?_
    have hi_5 := h.1
    have h := h.2
    obtain ⟨p_5, hp_5⟩ := cget_24 cI cZ cP cF q S hi_5
    refine vp_callSi (va_Run.run (va_runV (As := [.int a2]) (rest := []) ⟨hx, hb, hml, hown, hts⟩ (zd_X8_has l D cI cZ cP cF q S ((r3 : Int32).toNatClampNeg) a2  _ h) (cwV 1 hts zg_zd_X11_depth_zd_X8_has_130 rfl rfl rfl (by decide +kernel) ⟨Nat.le_of_ble_eq_true rfl, Nat.le_of_ble_eq_true rfl⟩) ⟨zCR, va_recv hK hP (ci := 8) (q0 := p_5) rfl hp_5, fun U hU hW => ⟨rfl, by rw [hU]; exact hP, hE.warm hW⟩⟩ rfl rfl hl.1 rfl (lv_room (Nat.le_of_ble_eq_true rfl)) dX11_depth_15 ⟨Nat.le_of_ble_eq_true rfl, Nat.le_of_ble_eq_true rfl⟩)) (fun r6 h => ?_)
    refine lv_if_ne (tgt := 24) hx hb dX11_depth_18 (by decide) (fun c_7 => ?_) (fun c_7 => ?_)
    · have h := h.1 c_7
      refine lv_aload_n hx hb dX11_depth_24 rfl (lv_at hl 0 rfl) ?_
      have hi_8 := h.1
      have h := h.2
      obtain ⟨p_8, hp_8⟩ := cget_24 cI cZ cP cF q S hi_8
      refine vp_callSi (va_Run.run (va_runV (As := []) (rest := []) ⟨hx, hb, hml, hown, hts⟩ (zd_X8_isRight l D cI cZ cP cF q S ((r3 : Int32).toNatClampNeg)  _ h) (cwV 0 hts zg_zd_X11_depth_zd_X8_isRight_52 rfl rfl rfl (by decide +kernel) ⟨Nat.le_of_ble_eq_true rfl, Nat.le_of_ble_eq_true rfl⟩) ⟨zCR, va_recv hK hP (ci := 8) (q0 := p_8) rfl hp_8, fun U hU hW => ⟨rfl, by rw [hU]; exact hP, hE.warm hW⟩⟩ rfl rfl hl.1 rfl (lv_room (Nat.le_of_ble_eq_true rfl)) dX11_depth_25 ⟨Nat.le_of_ble_eq_true rfl, Nat.le_of_ble_eq_true rfl⟩)) (fun r9 h => ?_)
      refine lv_if_eq (tgt := 39) hx hb dX11_depth_28 (by decide) (fun c_10 => ?_) (fun c_10 => ?_)
      · have h := h.1 c_10
        refine lv_iconst (v := (-1)) hx hb dX11_depth_39 (by decide) ?_
        exact W.iret (v := (-1)) hx hb hr (fun t ht hW => ⟨_, rfl, h, ht⟩) (fun q h => by cases h) dX11_depth_40
      · have h := h.2 c_10
        refine lv_aload_n hx hb dX11_depth_31 rfl (lv_at hl 0 rfl) ?_
        refine lv_iload_n hx hb dX11_depth_32 rfl (lv_at hl 3 rfl) ?_
        have hi_11 := h.1
        have h := h.2
        obtain ⟨p_11, hp_11⟩ := cget_24 cI cZ cP cF q S hi_11
        refine vp_callSi (va_Run.run (va_runV (As := [.int a2]) (rest := []) ⟨hx, hb, hml, hown, hts⟩ (zd_X8_depthAt l D cI cZ cP cF q S ((r3 : Int32).toNatClampNeg) a2  _ h) (cwV 1 hts zg_zd_X11_depth_zd_X8_depthAt_133 rfl rfl rfl (by decide +kernel) ⟨Nat.le_of_ble_eq_true rfl, Nat.le_of_ble_eq_true rfl⟩) ⟨zCR, va_recv hK hP (ci := 8) (q0 := p_11) rfl hp_11, fun U hU hW => ⟨rfl, by rw [hU]; exact hP, hE.warm hW⟩⟩ rfl rfl hl.1 rfl (lv_room (Nat.le_of_ble_eq_true rfl)) dX11_depth_33 ⟨Nat.le_of_ble_eq_true rfl, Nat.le_of_ble_eq_true rfl⟩)) (fun r12 h => ?_)
        refine lv_goto (tgt := 40) hx hb dX11_depth_36 (by decide) ?_
        exact W.iret (v := r12) hx hb hr (fun t ht hW => ⟨_, rfl, h, ht⟩) (fun q h => by cases h) dX11_depth_40
    · have h := h.2 c_7
      refine lv_bipush (v := (-2)) hx hb dX11_depth_21 (by decide) ?_
      exact W.iret (v := (-2)) hx hb hr (fun t ht hW => ⟨_, rfl, h, ht⟩) (fun q h => by cases h) dX11_depth_23

def wp_X11_count (S : CST) (a1 : Int32) (Post : Int32 → Prop) : Prop :=
  ((a1 : Int32).toInt < 0 ∨ 5 < (a1 : Int32).toInt → (Post (-2))) ∧ (a1 = 0 → (Post (cv S 11 0 0))) ∧ (a1 = 1 → (Post (cv S 200 0 0))) ∧ (a1 = 2 → (Post (cv S 201 0 0))) ∧ (a1 = 3 → (Post (cv S 202 0 0))) ∧ (a1 = 4 → (Post (cv S 203 0 0))) ∧ (a1 = 5 → (Post (cv S 204 0 0)))
def zw_zd_X11_count_w0 : List Cond := [.fieldLink RX11 40 "TemplateForge" "machine" "LTemplateForge$Machine;", .fieldLink RX11 88 "TemplateForge$Machine" "tally" "LTemplateForge$Tally;", .fieldLink RX11 15 "TemplateForge" "book" "LTemplateForge$Book;", .fieldLink RX11 136 "TemplateForge$Book" "told" "I", .fieldLink RX11 92 "TemplateForge$Tally" "runs" "I", .fieldLink RX11 139 "TemplateForge$Tally" "steps" "I", .fieldLink RX11 142 "TemplateForge$Tally" "calls" "I", .fieldLink RX11 145 "TemplateForge$Tally" "coded" "I", .fieldLink RX11 148 "TemplateForge$Tally" "failed" "I"]
def zw_zd_X11_count : List Cond := .code yX11_count cX11_count 3 (some .int) :: ((zw_zd_X11_count_w0) ++ wsX110 ++ wsX70 ++ wsX00 ++ wsX100)
set_option maxHeartbeats 16000000 in
set_option maxRecDepth 100000 in
theorem zd_X11_count (l : Launch) (D : va_G) (cI cZ cP cF : Nat) (q : Nat → Nat → Nat) (S : CST) (a1 : Int32) (Post : Int32 → Prop) (h : wp_X11_count S a1 Post) : Met l yX11_count zw_zd_X11_count ({ frames := 0, cells := 0, slots := 0, locals := 0 }) (va_Pc [.ref (q 0 0), .int a1] (fun U => va_P D vwCl (cW cI cZ cP cF q S) U.heap ∧ zF D cI cZ cP cF U)) (vp_Si Post) 0 0 (fun _ => False) := by
  unfold wp_X11_count at h
  refine Met.ofW (cc := cX11_count) (maxL := 3) (ret := (some .int)) (by decide) rfl ?_
  intro p e s m args below meth c s₁ B hml hv
  obtain ⟨rfl, hP, hE⟩ := hv
  have hx := B.exec
  have hb := B.bytes
  have hr := B.returns
  have hts := atoms_spec (ws := zw_zd_X11_count) B.pre
  have hown : s.vm.findClass RX11 = some m.cls := findClass_of_methodNamed B.named
  have hlocks := B.notSynchronized
  have hK := hE.k
  have hl := lv_entry ([.ref (q 0 0), .int a1]) (n := 3) (Nat.le_of_ble_eq_true rfl)
  rw [lg_entry_eq]
  generalize (lg_sl ([.ref (q 0 0), .int a1]) ++ List.replicate (3 - (lg_sl ([.ref (q 0 0), .int a1])).length) Slot.unset).toArray = ls at hl ⊢
  have hl : lv_has ls 3 [(0, .ref (q 0 0)), (1, .int a1)] := hl
  refine lv_aload_n hx hb dX11_count_0 rfl (lv_at hl 0 rfl) ?_
  obtain ⟨p_1, hp_1⟩ := cget_0 cI cZ cP cF q S
  have hi_1 : cin S 0 0 := Or.inl ⟨by decide, rfl⟩
  refine va_get (D := D) (ci := 11) (v := .ref (q 12 0)) (C := RX11) (T := TX11) (N := 4) hx hb hts (fun _ h => List.mem_cons_of_mem _ (List.mem_append_left _ (List.mem_append_left _ (List.mem_append_left _ (List.mem_append_right _ h))))) hown hK hP p_1 hp_1 rfl 3 (by decide) (hts (.fieldLink RX11 40 "TemplateForge" "machine" "LTemplateForge$Machine;") (List.mem_of_getElem? (i := 1) rfl)) (fun _ h9 => h9) rfl dX11_count_1 ?_
  obtain ⟨p_2, hp_2⟩ := cget_12 cI cZ cP cF q S
  have hi_2 : cin S 12 0 := Or.inl ⟨by decide, rfl⟩
  refine va_get (D := D) (ci := 7) (v := .ref (q 20 0)) (C := RX7) (T := TX7) (N := 10) hx hb hts (fun _ h => List.mem_cons_of_mem _ (List.mem_append_left _ (List.mem_append_left _ (List.mem_append_right _ h)))) hown hK hP p_2 hp_2 rfl 3 (by decide) (hts (.fieldLink RX11 88 "TemplateForge$Machine" "tally" "LTemplateForge$Tally;") (List.mem_of_getElem? (i := 2) rfl)) (fun _ h9 => h9) rfl dX11_count_4 ?_
  refine lv_astore_n (lv' := [(2, .ref (q 20 0)), (0, .ref (q 0 0)), (1, .int a1)]) hx hb dX11_count_7 rfl hl (by decide) rfl (fun ls hl => ?_)
  refine lv_iload_n hx hb dX11_count_8 rfl (lv_at hl 2 rfl) ?_
  rcases zt_0_5 a1 with h_out | h_in | h_in | h_in | h_in | h_in | h_in
  · have h := h.1 h_out
    refine lv_tableOut (tgt := 81) hx hb dX11_count_9 h_out (by decide) ?_
    refine lv_bipush (v := (-2)) hx hb dX11_count_81 (by decide) ?_
    exact W.iret (v := (-2)) hx hb hr (fun t ht hW => ⟨_, rfl, h, ht⟩) (fun q h => by cases h) dX11_count_83
  · have h := h.2.1 h_in
    refine lv_tableIn (off := 39) (tgt := 48) hx hb dX11_count_9 (by rw [h_in]; decide) (by rw [h_in]; decide) (by rw [h_in]; decide) (by decide) ?_
    refine lv_aload_n hx hb dX11_count_48 rfl (lv_at hl 1 rfl) ?_
    obtain ⟨p_3, hp_3⟩ := cget_0 cI cZ cP cF q S
    have hi_3 : cin S 0 0 := Or.inl ⟨by decide, rfl⟩
    refine va_get (D := D) (ci := 11) (v := .ref (q 1 0)) (C := RX11) (T := TX11) (N := 4) hx hb hts (fun _ h => List.mem_cons_of_mem _ (List.mem_append_left _ (List.mem_append_left _ (List.mem_append_left _ (List.mem_append_right _ h))))) hown hK hP p_3 hp_3 rfl 0 (by decide) (hts (.fieldLink RX11 15 "TemplateForge" "book" "LTemplateForge$Book;") (List.mem_of_getElem? (i := 3) rfl)) (fun _ h9 => h9) rfl dX11_count_49 ?_
    obtain ⟨p_4, hp_4⟩ := cget_1 cI cZ cP cF q S
    have hi_4 : cin S 1 0 := Or.inl ⟨by decide, rfl⟩
    refine va_get (D := D) (ci := 0) (v := .int (cv S 11 0 0)) (C := RX0) (T := TX0) (N := 2) hx hb hts (fun _ h => List.mem_cons_of_mem _ (List.mem_append_left _ (List.mem_append_right _ h))) hown hK hP p_4 hp_4 rfl 1 (by decide) (hts (.fieldLink RX11 136 "TemplateForge$Book" "told" "I") (List.mem_of_getElem? (i := 4) rfl)) (fun _ h9 => h9) rfl dX11_count_52 ?_
    exact W.iret (v := cv S 11 0 0) hx hb hr (fun t ht hW => ⟨_, rfl, h, ht⟩) (fun q h => by cases h) dX11_count_55
  · have h := h.2.2.1 h_in
    refine lv_tableIn (off := 47) (tgt := 56) hx hb dX11_count_9 (by rw [h_in]; decide) (by rw [h_in]; decide) (by rw [h_in]; decide) (by decide) ?_
    refine lv_aload_n hx hb dX11_count_56 rfl (lv_at hl 0 rfl) ?_
    obtain ⟨p_5, hp_5⟩ := cget_20 cI cZ cP cF q S
    have hi_5 : cin S 20 0 := Or.inl ⟨by decide, rfl⟩
    refine va_get (D := D) (ci := 10) (v := .int (cv S 200 0 0)) (C := RX10) (T := TX10) (N := 7) hx hb hts (fun _ h => List.mem_cons_of_mem _ (List.mem_append_right _ h)) hown hK hP p_5 hp_5 rfl 0 (by decide) (hts (.fieldLink RX11 92 "TemplateForge$Tally" "runs" "I") (List.mem_of_getElem? (i := 5) rfl)) (fun _ h9 => h9) rfl dX11_count_57 ?_
    exact W.iret (v := cv S 200 0 0) hx hb hr (fun t ht hW => ⟨_, rfl, h, ht⟩) (fun q h => by cases h) dX11_count_60
  · have h := h.2.2.2.1 h_in
    refine lv_tableIn (off := 52) (tgt := 61) hx hb dX11_count_9 (by rw [h_in]; decide) (by rw [h_in]; decide) (by rw [h_in]; decide) (by decide) ?_
    refine lv_aload_n hx hb dX11_count_61 rfl (lv_at hl 0 rfl) ?_
    obtain ⟨p_6, hp_6⟩ := cget_20 cI cZ cP cF q S
    have hi_6 : cin S 20 0 := Or.inl ⟨by decide, rfl⟩
    refine va_get (D := D) (ci := 10) (v := .int (cv S 201 0 0)) (C := RX10) (T := TX10) (N := 7) hx hb hts (fun _ h => List.mem_cons_of_mem _ (List.mem_append_right _ h)) hown hK hP p_6 hp_6 rfl 1 (by decide) (hts (.fieldLink RX11 139 "TemplateForge$Tally" "steps" "I") (List.mem_of_getElem? (i := 6) rfl)) (fun _ h9 => h9) rfl dX11_count_62 ?_
    exact W.iret (v := cv S 201 0 0) hx hb hr (fun t ht hW => ⟨_, rfl, h, ht⟩) (fun q h => by cases h) dX11_count_65
  · have h := h.2.2.2.2.1 h_in
    refine lv_tableIn (off := 57) (tgt := 66) hx hb dX11_count_9 (by rw [h_in]; decide) (by rw [h_in]; decide) (by rw [h_in]; decide) (by decide) ?_
    refine lv_aload_n hx hb dX11_count_66 rfl (lv_at hl 0 rfl) ?_
    obtain ⟨p_7, hp_7⟩ := cget_20 cI cZ cP cF q S
    have hi_7 : cin S 20 0 := Or.inl ⟨by decide, rfl⟩
    refine va_get (D := D) (ci := 10) (v := .int (cv S 202 0 0)) (C := RX10) (T := TX10) (N := 7) hx hb hts (fun _ h => List.mem_cons_of_mem _ (List.mem_append_right _ h)) hown hK hP p_7 hp_7 rfl 2 (by decide) (hts (.fieldLink RX11 142 "TemplateForge$Tally" "calls" "I") (List.mem_of_getElem? (i := 7) rfl)) (fun _ h9 => h9) rfl dX11_count_67 ?_
    exact W.iret (v := cv S 202 0 0) hx hb hr (fun t ht hW => ⟨_, rfl, h, ht⟩) (fun q h => by cases h) dX11_count_70
  · have h := h.2.2.2.2.2.1 h_in
    refine lv_tableIn (off := 62) (tgt := 71) hx hb dX11_count_9 (by rw [h_in]; decide) (by rw [h_in]; decide) (by rw [h_in]; decide) (by decide) ?_
    refine lv_aload_n hx hb dX11_count_71 rfl (lv_at hl 0 rfl) ?_
    obtain ⟨p_8, hp_8⟩ := cget_20 cI cZ cP cF q S
    have hi_8 : cin S 20 0 := Or.inl ⟨by decide, rfl⟩
    refine va_get (D := D) (ci := 10) (v := .int (cv S 203 0 0)) (C := RX10) (T := TX10) (N := 7) hx hb hts (fun _ h => List.mem_cons_of_mem _ (List.mem_append_right _ h)) hown hK hP p_8 hp_8 rfl 3 (by decide) (hts (.fieldLink RX11 145 "TemplateForge$Tally" "coded" "I") (List.mem_of_getElem? (i := 8) rfl)) (fun _ h9 => h9) rfl dX11_count_72 ?_
    exact W.iret (v := cv S 203 0 0) hx hb hr (fun t ht hW => ⟨_, rfl, h, ht⟩) (fun q h => by cases h) dX11_count_75
  · have h := h.2.2.2.2.2.2 h_in
    refine lv_tableIn (off := 67) (tgt := 76) hx hb dX11_count_9 (by rw [h_in]; decide) (by rw [h_in]; decide) (by rw [h_in]; decide) (by decide) ?_
    refine lv_aload_n hx hb dX11_count_76 rfl (lv_at hl 0 rfl) ?_
    obtain ⟨p_9, hp_9⟩ := cget_20 cI cZ cP cF q S
    have hi_9 : cin S 20 0 := Or.inl ⟨by decide, rfl⟩
    refine va_get (D := D) (ci := 10) (v := .int (cv S 204 0 0)) (C := RX10) (T := TX10) (N := 7) hx hb hts (fun _ h => List.mem_cons_of_mem _ (List.mem_append_right _ h)) hown hK hP p_9 hp_9 rfl 4 (by decide) (hts (.fieldLink RX11 148 "TemplateForge$Tally" "failed" "I") (List.mem_of_getElem? (i := 9) rfl)) (fun _ h9 => h9) rfl dX11_count_77 ?_
    exact W.iret (v := cv S 204 0 0) hx hb hr (fun t ht hW => ⟨_, rfl, h, ht⟩) (fun q h => by cases h) dX11_count_80

def wl_X11_mixedWith_2 (S : CST) (K_26 : Int64 → Nat → Prop) (Post : Int64 → Prop) : Nat → Int64 → Nat → Int32 → Prop
  | 0, _, _, _ => False
  | n_2 + 1, x2_0, y2_2, x2_3 => ((5 < x2_3) → ((K_26 x2_0 y2_2))) ∧ ((¬ (5 < x2_3)) → (wp_X11_tellOf S y2_2 x2_3 (fun r10 => wl_X11_mixedWith_2 S K_26 Post n_2 ((31 * x2_0) + ((r10 : Int32).toInt64)) y2_2 (x2_3 + 1))))
def wp_X11_mixedWith (S : CST) (a0 : Int64) (i2 : Nat) (Post : Int64 → Prop) : Prop :=
  ∃ n_2, wl_X11_mixedWith_2 S (fun x26_0 y26_2 => cin S 24 y26_2 ∧ (cin S 28 y26_2 ∧ (((cv S 281 y26_2 0) < 0) → (Post x26_0)) ∧ ((¬ ((cv S 281 y26_2 0) < 0)) → (cin S 24 y26_2 ∧ (cin S 28 y26_2 ∧ (((cv S 281 y26_2 0) < 0) → (False)) ∧ ((¬ ((cv S 281 y26_2 0) < 0)) → (cin S 32 (((cv S 281 y26_2 0) : Int32).toNatClampNeg) ∧ (wp_X1_mixedInto S (((cv S 281 y26_2 0) : Int32).toNatClampNeg) x26_0 (fun r8 => Post r8))))))))) Post n_2 a0 i2 0
def zw_zd_X11_mixedWith_w0 : List Cond := [.fieldLink RX11 111 "TemplateForge$Program" "heat" "LTemplateForge$Heat;", .fieldLink RX11 115 "TemplateForge$Heat" "latest" "LTemplateForge$Code;", .code yX1_mixedInto cX1_mixedInto 4 (some .long), .fieldLink RX1 18 "TemplateForge$Code" "cells" "[I", .constantLong RX1 30 (31), .methodLink RX11 164 yX1_mixedInto, .instanceMethod yX1_mixedInto, .selects RX1 yX1_mixedInto yX1_mixedInto, .initialized RX1, .constantLong RX11 162 (31), .code yX11_tellOf cX11_tellOf 3 (some .int), .fieldLink RX11 165 "TemplateForge$Heat" "hasCode" "Z", .fieldLink RX11 169 "TemplateForge$Heat" "counted" "I", .fieldLink RX11 172 "TemplateForge$Heat" "made" "I", .fieldLink RX11 175 "TemplateForge$Heat" "failed" "I", .fieldLink RX11 176 "TemplateForge$Heat" "ran" "I"]
def zw_zd_X11_mixedWith_w1 : List Cond := [.code yX1_parts cX1_parts 1 (some .int), .methodLink RX11 179 yX1_parts, .instanceMethod yX1_parts, .selects RX1 yX1_parts yX1_parts, .fieldLink RX11 183 "TemplateForge$Program" "length" "I", .fieldLink RX11 186 "TemplateForge$Program" "deepest" "I", .methodLink RX11 107 yX11_tellOf, .static yX11_tellOf, .initialized RX11]
def zw_zd_X11_mixedWith : List Cond := .code yX11_mixedWith cX11_mixedWith 4 (some .long) :: ((zw_zd_X11_mixedWith_w0 ++ (zw_zd_X11_mixedWith_w1)) ++ wsX80 ++ wsX50 ++ wsX10)
set_option maxRecDepth 100000 in
theorem zg_zd_X11_mixedWith_zd_X1_mixedInto_164_a : GoodIn zw_zd_X11_mixedWith [.methodLink RX11 164 yX1_mixedInto, .instanceMethod yX1_mixedInto, .selects RX1 yX1_mixedInto yX1_mixedInto, .initialized RX1] := goodIn_r _ [6, 7, 8, 9] rfl (by decide +kernel)
set_option maxRecDepth 100000 in
theorem zg_zd_X11_mixedWith_zd_X1_mixedInto_164_c : GoodIn zw_zd_X11_mixedWith [.code yX1_mixedInto cX1_mixedInto 4 (some .long)] := goodIn_r _ [3] rfl (by decide +kernel)
set_option maxRecDepth 100000 in
theorem zg_zd_X11_mixedWith_zd_X1_mixedInto_164_0 : GoodIn zw_zd_X11_mixedWith zw_zd_X1_mixedInto_w0 := goodIn_r _ [4, 5] rfl (by decide +kernel)
theorem zg_zd_X11_mixedWith_zd_X1_mixedInto_164 : GoodIn zw_zd_X11_mixedWith (wsV RX11 164 RX1 yX1_mixedInto zw_zd_X1_mixedInto) := goodIn_app zg_zd_X11_mixedWith_zd_X1_mixedInto_164_a (goodIn_ca (a := (zw_zd_X1_mixedInto_w0)) (show GoodIn zw_zd_X11_mixedWith (.code yX1_mixedInto cX1_mixedInto 4 (some .long) :: (zw_zd_X1_mixedInto_w0)) from goodIn_app zg_zd_X11_mixedWith_zd_X1_mixedInto_164_c (zg_zd_X11_mixedWith_zd_X1_mixedInto_164_0)) (fun w h => ⟨(fun _ h => List.mem_cons_of_mem _ (List.mem_append_right _ h)) w h, good_of_word (List.all_eq_true.mp zgw_X1 w h)⟩))
set_option maxRecDepth 100000 in
theorem zg_zd_X11_mixedWith_zd_X11_tellOf_107_a : GoodIn zw_zd_X11_mixedWith [.methodLink RX11 107 yX11_tellOf, .static yX11_tellOf, .initialized RX11] := goodIn_r _ [23, 24, 25] rfl (by decide +kernel)
set_option maxRecDepth 100000 in
theorem zg_zd_X11_mixedWith_zd_X11_tellOf_107_c : GoodIn zw_zd_X11_mixedWith [.code yX11_tellOf cX11_tellOf 3 (some .int)] := goodIn_r _ [11] rfl (by decide +kernel)
set_option maxRecDepth 100000 in
theorem zg_zd_X11_mixedWith_zd_X11_tellOf_107_0 : GoodIn zw_zd_X11_mixedWith zw_zd_X11_tellOf_w0 := goodIn_r _ [1, 12, 13, 14, 15, 16, 2, 17, 4, 18, 19, 20, 9, 21, 22] rfl (by decide +kernel)
theorem zg_zd_X11_mixedWith_zd_X11_tellOf_107 : GoodIn zw_zd_X11_mixedWith (va_wsS RX11 107 yX11_tellOf zw_zd_X11_tellOf) := goodIn_app zg_zd_X11_mixedWith_zd_X11_tellOf_107_a (goodIn_ca (a := (((zw_zd_X11_tellOf_w0) ++ wsX80) ++ wsX50)) (goodIn_ca (a := ((zw_zd_X11_tellOf_w0) ++ wsX80)) (goodIn_ca (a := (zw_zd_X11_tellOf_w0)) (show GoodIn zw_zd_X11_mixedWith (.code yX11_tellOf cX11_tellOf 3 (some .int) :: (zw_zd_X11_tellOf_w0)) from goodIn_app zg_zd_X11_mixedWith_zd_X11_tellOf_107_c (zg_zd_X11_mixedWith_zd_X11_tellOf_107_0)) (fun w h => ⟨(fun _ h => List.mem_cons_of_mem _ (List.mem_append_left _ (List.mem_append_left _ (List.mem_append_right _ h)))) w h, good_of_word (List.all_eq_true.mp zgw_X8 w h)⟩)) (fun w h => ⟨(fun _ h => List.mem_cons_of_mem _ (List.mem_append_left _ (List.mem_append_right _ h))) w h, good_of_word (List.all_eq_true.mp zgw_X5 w h)⟩)) (fun w h => ⟨(fun _ h => List.mem_cons_of_mem _ (List.mem_append_right _ h)) w h, good_of_word (List.all_eq_true.mp zgw_X1 w h)⟩))
set_option maxHeartbeats 16000000 in
set_option maxRecDepth 100000 in
theorem zd_X11_mixedWith (l : Launch) (D : va_G) (cI cZ cP cF : Nat) (q : Nat → Nat → Nat) (S : CST) (a0 : Int64) (i2 : Nat) (Post : Int64 → Prop) (h : wp_X11_mixedWith S a0 i2 Post) : Met l yX11_mixedWith zw_zd_X11_mixedWith ({ frames := 2, cells := 0, slots := 0, locals := 42 }) (va_Pc [.long a0, .ref (q 24 i2)] (fun U => va_P D vwCl (cW cI cZ cP cF q S) U.heap ∧ zF D cI cZ cP cF U)) (vp_Sl Post) 0 0 (fun _ => False) := by
  unfold wp_X11_mixedWith at h
  refine Met.ofW (cc := cX11_mixedWith) (maxL := 4) (ret := (some .long)) (by decide) rfl ?_
  intro p e s m args below meth c s₁ B hml hv
  obtain ⟨rfl, hP, hE⟩ := hv
  have hx := B.exec
  have hb := B.bytes
  have hr := B.returns
  have hts := atoms_spec (ws := zw_zd_X11_mixedWith) B.pre
  have hown : s.vm.findClass RX11 = some m.cls := findClass_of_methodNamed B.named
  have hlocks := B.notSynchronized
  have hK := hE.k
  have hl := lv_entry ([.long a0, .ref (q 24 i2)]) (n := 4) (Nat.le_of_ble_eq_true rfl)
  rw [lg_entry_eq]
  generalize (lg_sl ([.long a0, .ref (q 24 i2)]) ++ List.replicate (4 - (lg_sl ([.long a0, .ref (q 24 i2)])).length) Slot.unset).toArray = ls at hl ⊢
  have hl : lv_has ls 4 [(0, .long a0), (2, .ref (q 24 i2))] := hl
  refine lv_iconst (v := 0) hx hb dX11_mixedWith_0 (by decide) ?_
  refine lv_istore_n (lv' := [(3, .int 0), (0, .long a0), (2, .ref (q 24 i2))]) hx hb dX11_mixedWith_1 rfl hl (by decide) rfl (fun ls hl => ?_)
  have EX_2_26 : ∀ (x26_0 : Int64) (y26_2 : Nat) (ls : Array Slot), (cin S 24 y26_2 ∧ (cin S 28 y26_2 ∧ (((cv S 281 y26_2 0) < 0) → (Post x26_0)) ∧ ((¬ ((cv S 281 y26_2 0) < 0)) → (cin S 24 y26_2 ∧ (cin S 28 y26_2 ∧ (((cv S 281 y26_2 0) < 0) → (False)) ∧ ((¬ ((cv S 281 y26_2 0) < 0)) → (cin S 32 (((cv S 281 y26_2 0) : Int32).toNatClampNeg) ∧ (wp_X1_mixedInto S (((cv S 281 y26_2 0) : Int32).toNatClampNeg) x26_0 (fun r8 => Post r8))))))))) → lv_has ls 4 [(0, .long x26_0), (2, .ref (q 24 y26_2))] → W p l e (headSpec zw_zd_X11_mixedWith ({ frames := 2, cells := 0, slots := 0, locals := 42 })).room s m ([.long a0, .ref (q 24 i2)] : List Value).toArray below meth c s.heap [] 0 0 (MQ below (vp_Sl Post) ([.long a0, .ref (q 24 i2)] : List Value).toArray s 0 0 (fun _ => False)) (F0 m 26 ls []) := by
    intro x26_0 y26_2 ls h hl
    refine lv_aload_n hx hb dX11_mixedWith_26 rfl (lv_at hl 1 rfl) ?_
    have hi_1 := h.1
    have h := h.2
    obtain ⟨p_1, hp_1⟩ := cget_24 cI cZ cP cF q S hi_1
    refine va_get (D := D) (ci := 8) (v := .ref (q 28 y26_2)) (C := RX8) (T := TX8) (N := 10) hx hb hts (fun _ h => List.mem_cons_of_mem _ (List.mem_append_left _ (List.mem_append_left _ (List.mem_append_right _ h)))) hown hK hP p_1 hp_1 rfl 3 (by decide) (hts (.fieldLink RX11 111 "TemplateForge$Program" "heat" "LTemplateForge$Heat;") (List.mem_of_getElem? (i := 1) rfl)) (fun _ h9 => h9) rfl dX11_mixedWith_27 ?_
    have hi_2 := h.1
    have h := h.2
    obtain ⟨p_2, hp_2⟩ := cget_28 cI cZ cP cF q S hi_2
    by_cases hn_3 : (cv S 281 y26_2 0) < 0
    · have h := h.1 hn_3
      refine va_get (D := D) (ci := 5) (v := .null) (C := RX5) (T := TX5) (N := 9) hx hb hts (fun _ h => List.mem_cons_of_mem _ (List.mem_append_left _ (List.mem_append_right _ h))) hown hK hP p_2 hp_2 rfl 1 (by decide) (hts (.fieldLink RX11 115 "TemplateForge$Heat" "latest" "LTemplateForge$Code;") (List.mem_of_getElem? (i := 2) rfl)) (fun _ h9 => h9) (congrArg some (cn_neg hn_3)) dX11_mixedWith_30 ?_
      refine lv_ifnonnullN hx hb dX11_mixedWith_33 ?_
      refine lv_lload_n hx hb dX11_mixedWith_36 rfl (lv_at hl 0 rfl) ?_
      refine lv_goto (tgt := 51) hx hb dX11_mixedWith_37 (by decide) ?_
      exact W.lret (v := x26_0) hx hb hr (fun t ht hW => ⟨_, rfl, h, ht⟩) (fun q h => by cases h) dX11_mixedWith_51
    · have h := h.2 hn_3
      refine va_get (D := D) (ci := 5) (v := .ref (q 32 ((cv S 281 y26_2 0) : Int32).toNatClampNeg)) (C := RX5) (T := TX5) (N := 9) hx hb hts (fun _ h => List.mem_cons_of_mem _ (List.mem_append_left _ (List.mem_append_right _ h))) hown hK hP p_2 hp_2 rfl 1 (by decide) (hts (.fieldLink RX11 115 "TemplateForge$Heat" "latest" "LTemplateForge$Code;") (List.mem_of_getElem? (i := 2) rfl)) (fun _ h9 => h9) (congrArg some (cn_pos hn_3)) dX11_mixedWith_30 ?_
      refine lv_ifnonnull (tgt := 40) hx hb dX11_mixedWith_33 (by decide) ?_
      refine lv_aload_n hx hb dX11_mixedWith_40 rfl (lv_at hl 1 rfl) ?_
      have hi_4 := h.1
      have h := h.2
      obtain ⟨p_4, hp_4⟩ := cget_24 cI cZ cP cF q S hi_4
      refine va_get (D := D) (ci := 8) (v := .ref (q 28 y26_2)) (C := RX8) (T := TX8) (N := 10) hx hb hts (fun _ h => List.mem_cons_of_mem _ (List.mem_append_left _ (List.mem_append_left _ (List.mem_append_right _ h)))) hown hK hP p_4 hp_4 rfl 3 (by decide) (hts (.fieldLink RX11 111 "TemplateForge$Program" "heat" "LTemplateForge$Heat;") (List.mem_of_getElem? (i := 1) rfl)) (fun _ h9 => h9) rfl dX11_mixedWith_41 ?_
      have hi_5 := h.1
      have h := h.2
      obtain ⟨p_5, hp_5⟩ := cget_28 cI cZ cP cF q S hi_5
      by_cases hn_6 : (cv S 281 y26_2 0) < 0
      · have h := h.1 hn_6
        refine va_get (D := D) (ci := 5) (v := .null) (C := RX5) (T := TX5) (N := 9) hx hb hts (fun _ h => List.mem_cons_of_mem _ (List.mem_append_left _ (List.mem_append_right _ h))) hown hK hP p_5 hp_5 rfl 1 (by decide) (hts (.fieldLink RX11 115 "TemplateForge$Heat" "latest" "LTemplateForge$Code;") (List.mem_of_getElem? (i := 2) rfl)) (fun _ h9 => h9) (congrArg some (cn_neg hn_6)) dX11_mixedWith_44 ?_
        refine lv_lload_n hx hb dX11_mixedWith_47 rfl (lv_at hl 0 rfl) ?_
        exact h.elim
      · have h := h.2 hn_6
        refine va_get (D := D) (ci := 5) (v := .ref (q 32 ((cv S 281 y26_2 0) : Int32).toNatClampNeg)) (C := RX5) (T := TX5) (N := 9) hx hb hts (fun _ h => List.mem_cons_of_mem _ (List.mem_append_left _ (List.mem_append_right _ h))) hown hK hP p_5 hp_5 rfl 1 (by decide) (hts (.fieldLink RX11 115 "TemplateForge$Heat" "latest" "LTemplateForge$Code;") (List.mem_of_getElem? (i := 2) rfl)) (fun _ h9 => h9) (congrArg some (cn_pos hn_6)) dX11_mixedWith_44 ?_
        refine lv_lload_n hx hb dX11_mixedWith_47 rfl (lv_at hl 0 rfl) ?_
        have hi_7 := h.1
        have h := h.2
        obtain ⟨p_7, hp_7⟩ := cget_32 cI cZ cP cF q S hi_7
        refine vp_callSl (va_Run.run (va_runV (As := [.long x26_0]) (rest := []) ⟨hx, hb, hml, hown, hts⟩ (zd_X1_mixedInto l D cI cZ cP cF q S (((cv S 281 y26_2 0) : Int32).toNatClampNeg) x26_0  _ h) (cwV 1 hts zg_zd_X11_mixedWith_zd_X1_mixedInto_164 rfl rfl rfl (by decide +kernel) ⟨Nat.le_of_ble_eq_true rfl, Nat.le_of_ble_eq_true rfl⟩) ⟨zCR, va_recv hK hP (ci := 1) (q0 := p_7) rfl hp_7, fun U hU hW => ⟨rfl, by rw [hU]; exact hP, hE.warm hW⟩⟩ rfl rfl hl.1 rfl (lv_room (Nat.le_of_ble_eq_true rfl)) dX11_mixedWith_48 ⟨Nat.le_of_ble_eq_true rfl, Nat.le_of_ble_eq_true rfl⟩)) (fun r8 h => ?_)
        exact W.lret (v := r8) hx hb hr (fun t ht hW => ⟨_, rfl, h, ht⟩) (fun q h => by cases h) dX11_mixedWith_51
  have LP_2 : ∀ (n_2 : Nat), ∀ (x2_0 : Int64) (y2_2 : Nat) (x2_3 : Int32) (ls : Array Slot), wl_X11_mixedWith_2 S (fun x26_0 y26_2 => cin S 24 y26_2 ∧ (cin S 28 y26_2 ∧ (((cv S 281 y26_2 0) < 0) → (Post x26_0)) ∧ ((¬ ((cv S 281 y26_2 0) < 0)) → (cin S 24 y26_2 ∧ (cin S 28 y26_2 ∧ (((cv S 281 y26_2 0) < 0) → (False)) ∧ ((¬ ((cv S 281 y26_2 0) < 0)) → (cin S 32 (((cv S 281 y26_2 0) : Int32).toNatClampNeg) ∧ (wp_X1_mixedInto S (((cv S 281 y26_2 0) : Int32).toNatClampNeg) x26_0 (fun r8 => Post r8))))))))) Post n_2 x2_0 y2_2 x2_3 → lv_has ls 4 [(0, .long x2_0), (2, .ref (q 24 y2_2)), (3, .int x2_3)] → W p l e (headSpec zw_zd_X11_mixedWith ({ frames := 2, cells := 0, slots := 0, locals := 42 })).room s m ([.long a0, .ref (q 24 i2)] : List Value).toArray below meth c s.heap [] 0 0 (MQ below (vp_Sl Post) ([.long a0, .ref (q 24 i2)] : List Value).toArray s 0 0 (fun _ => False)) (F0 m 2 ls []) := by
    intro n_2
    induction n_2 with
    | zero =>
      intro x2_0 y2_2 x2_3 ls h hl
      exact False.elim h
    | succ n_2 ih_2 =>
      intro x2_0 y2_2 x2_3 ls h hl
      unfold wl_X11_mixedWith_2 at h
      refine lv_iload_n hx hb dX11_mixedWith_2 rfl (lv_at hl 2 rfl) ?_
      refine lv_iconst (v := 5) hx hb dX11_mixedWith_3 (by decide) ?_
      refine lv_icmp_gt (tgt := 26) hx hb dX11_mixedWith_4 (by decide) (fun c_9 => ?_) (fun c_9 => ?_)
      · have h := h.1 c_9
        exact EX_2_26  x2_0 y2_2 _ h (lv_sub hl [0, 1] rfl)
      · have h := h.2 c_9
        refine lv_ldc2 hx hb hown (hts (.constantLong RX11 162 (31)) (List.mem_of_getElem? (i := 10) rfl)) dX11_mixedWith_7 ?_
        refine lv_lload_n hx hb dX11_mixedWith_10 rfl (lv_at hl 0 rfl) ?_
        refine lv_lmul hx hb dX11_mixedWith_11 ?_
        refine lv_aload_n hx hb dX11_mixedWith_12 rfl (lv_at hl 1 rfl) ?_
        refine lv_iload_n hx hb dX11_mixedWith_13 rfl (lv_at hl 2 rfl) ?_
        refine vp_callSi (va_Run.run (va_runS (As := [.ref (q 24 y2_2), .int x2_3]) (rest := [.long (31 * x2_0)]) ⟨hx, hb, hml, hown, hts⟩ (zd_X11_tellOf l D cI cZ cP cF q S y2_2 x2_3  _ h) (va_cwS 2 hts zg_zd_X11_mixedWith_zd_X11_tellOf_107 rfl rfl rfl (by decide +kernel) ⟨Nat.le_of_ble_eq_true rfl, Nat.le_of_ble_eq_true rfl⟩) ⟨zCR, fun U hU hW => ⟨rfl, by rw [hU]; exact hP, hE.warm hW⟩⟩ rfl rfl hl.1 rfl (lv_room (Nat.le_of_ble_eq_true rfl)) dX11_mixedWith_14 ⟨Nat.le_of_ble_eq_true rfl, Nat.le_of_ble_eq_true rfl⟩)) (fun r10 h => ?_)
        refine lv_i2l (v := (r10 : Int32).toInt64) hx hb dX11_mixedWith_17 rfl ?_
        refine lv_ladd hx hb dX11_mixedWith_18 ?_
        refine lv_lstore_n (lv' := [(0, .long ((31 * x2_0) + ((r10 : Int32).toInt64))), (2, .ref (q 24 y2_2)), (3, .int x2_3)]) hx hb dX11_mixedWith_19 rfl hl (by decide) rfl (fun ls hl => ?_)
        refine lv_iinc (v := x2_3 + 1) (lv' := [(3, .int (x2_3 + 1)), (0, .long ((31 * x2_0) + ((r10 : Int32).toInt64))), (2, .ref (q 24 y2_2))]) hx hb dX11_mixedWith_20 hl (k := 2) rfl rfl (by decide) rfl (fun ls hl => ?_)
        refine lv_goto (tgt := 2) hx hb dX11_mixedWith_23 (by decide) ?_
        exact ih_2  ((31 * x2_0) + ((r10 : Int32).toInt64)) y2_2 (x2_3 + 1) _ h (lv_sub hl [1, 2, 0] rfl)
  obtain ⟨n_2, h⟩ := h
  exact LP_2 n_2 a0 i2 0 _ h (lv_sub hl [1, 2, 0] rfl)

def wl_X11_digest_25 (S : CST) (K_64 : Int64 → Prop) (Post : Int64 → Prop) : Nat → Int64 → Int32 → Prop
  | 0, _, _ => False
  | n_25 + 1, x25_1, x25_3 => (((cv S 11 0 0) ≤ x25_3) → ((K_64 x25_1))) ∧ ((¬ ((cv S 11 0 0) ≤ x25_3)) → (wp_X0_at S x25_3 (fun r13 => ((r13 < 0) → (wl_X11_digest_25 S K_64 Post n_25 x25_1 (x25_3 + 1))) ∧ ((¬ (r13 < 0)) → (wp_X11_mixedWith S x25_1 ((r13 : Int32).toNatClampNeg) (fun r15 => wl_X11_digest_25 S K_64 Post n_25 r15 (x25_3 + 1)))))))
def wp_X11_digest (S : CST) (Post : Int64 → Prop) : Prop :=
  wp_X2_mixedInto S 17 (fun r3 => wp_X10_mixedInto S r3 (fun r7 => ∃ n_25, wl_X11_digest_25 S (fun x64_1 => Post x64_1) Post n_25 r7 0))
def zw_zd_X11_digest_w0 : List Cond := [.fieldLink RX11 22 "TemplateForge" "data" "LTemplateForge$Data;", .constantLong RX11 151 (17), .code yX2_mixedInto cX2_mixedInto 5 (some .long), .constantLong RX2 34 (31), .code yX2_lengthOf cX2_lengthOf 2 (some .int), .fieldLink RX2 15 "TemplateForge$Data" "lengths" "[I", .methodLink RX2 30 yX2_lengthOf, .instanceMethod yX2_lengthOf, .selects RX2 yX2_lengthOf yX2_lengthOf, .initialized RX2, .code yX2_itemOf cX2_itemOf 3 (some .int), .fieldLink RX2 18 "TemplateForge$Data" "items" "[I", .methodLink RX2 39 yX2_itemOf, .instanceMethod yX2_itemOf, .selects RX2 yX2_itemOf yX2_itemOf, .code yX2_valueOf cX2_valueOf 2 (some .int)]
def zw_zd_X11_digest_w1 : List Cond := [.fieldLink RX2 9 "TemplateForge$Data" "fields" "[I", .methodLink RX2 36 yX2_valueOf, .instanceMethod yX2_valueOf, .selects RX2 yX2_valueOf yX2_valueOf, .methodLink RX11 153 yX2_mixedInto, .instanceMethod yX2_mixedInto, .selects RX2 yX2_mixedInto yX2_mixedInto, .fieldLink RX11 40 "TemplateForge" "machine" "LTemplateForge$Machine;", .fieldLink RX11 88 "TemplateForge$Machine" "tally" "LTemplateForge$Tally;", .code yX10_mixedInto cX10_mixedInto 4 (some .long), .constantLong RX10 38 (31), .fieldLink RX10 31 "TemplateForge$Tally" "returned" "I", .fieldLink RX10 9 "TemplateForge$Tally" "trap" "[I", .methodLink RX11 157 yX10_mixedInto, .instanceMethod yX10_mixedInto, .selects RX10 yX10_mixedInto yX10_mixedInto]
def zw_zd_X11_digest_w2 : List Cond := [.initialized RX10, .fieldLink RX11 15 "TemplateForge" "book" "LTemplateForge$Book;", .fieldLink RX11 136 "TemplateForge$Book" "told" "I", .code yX0_at cX0_at 2 (some (.object "TemplateForge$Program")), .fieldLink RX0 17 "TemplateForge$Book" "told" "I", .fieldLink RX0 11 "TemplateForge$Book" "programs" "[LTemplateForge$Program;", .methodLink RX11 48 yX0_at, .instanceMethod yX0_at, .selects RX0 yX0_at yX0_at, .initialized RX0, .code yX11_mixedWith cX11_mixedWith 4 (some .long), .fieldLink RX11 111 "TemplateForge$Program" "heat" "LTemplateForge$Heat;", .fieldLink RX11 115 "TemplateForge$Heat" "latest" "LTemplateForge$Code;", .code yX1_mixedInto cX1_mixedInto 4 (some .long), .fieldLink RX1 18 "TemplateForge$Code" "cells" "[I", .constantLong RX1 30 (31)]
def zw_zd_X11_digest_w3 : List Cond := [.methodLink RX11 164 yX1_mixedInto, .instanceMethod yX1_mixedInto, .selects RX1 yX1_mixedInto yX1_mixedInto, .initialized RX1, .constantLong RX11 162 (31), .code yX11_tellOf cX11_tellOf 3 (some .int), .fieldLink RX11 165 "TemplateForge$Heat" "hasCode" "Z", .fieldLink RX11 169 "TemplateForge$Heat" "counted" "I", .fieldLink RX11 172 "TemplateForge$Heat" "made" "I", .fieldLink RX11 175 "TemplateForge$Heat" "failed" "I", .fieldLink RX11 176 "TemplateForge$Heat" "ran" "I", .code yX1_parts cX1_parts 1 (some .int), .methodLink RX11 179 yX1_parts, .instanceMethod yX1_parts, .selects RX1 yX1_parts yX1_parts, .fieldLink RX11 183 "TemplateForge$Program" "length" "I"]
def zw_zd_X11_digest_w4 : List Cond := [.fieldLink RX11 186 "TemplateForge$Program" "deepest" "I", .methodLink RX11 107 yX11_tellOf, .static yX11_tellOf, .initialized RX11, .methodLink RX11 158 yX11_mixedWith, .static yX11_mixedWith]
def zw_zd_X11_digest : List Cond := .code yX11_digest cX11_digest 5 (some .long) :: ((zw_zd_X11_digest_w0 ++ (zw_zd_X11_digest_w1 ++ (zw_zd_X11_digest_w2 ++ (zw_zd_X11_digest_w3 ++ (zw_zd_X11_digest_w4))))) ++ wsX110 ++ wsX20 ++ wsX70 ++ wsX100 ++ wsX00 ++ wsX80 ++ wsX50 ++ wsX10)
set_option maxRecDepth 100000 in
theorem zg_zd_X11_digest_zd_X2_mixedInto_153_a : GoodIn zw_zd_X11_digest [.methodLink RX11 153 yX2_mixedInto, .instanceMethod yX2_mixedInto, .selects RX2 yX2_mixedInto yX2_mixedInto, .initialized RX2] := goodIn_r _ [21, 22, 23, 10] rfl (by decide +kernel)
set_option maxRecDepth 100000 in
theorem zg_zd_X11_digest_zd_X2_mixedInto_153_c : GoodIn zw_zd_X11_digest [.code yX2_mixedInto cX2_mixedInto 5 (some .long)] := goodIn_r _ [3] rfl (by decide +kernel)
set_option maxRecDepth 100000 in
theorem zg_zd_X11_digest_zd_X2_mixedInto_153_0 : GoodIn zw_zd_X11_digest zw_zd_X2_mixedInto_w0 := goodIn_r _ [4, 5, 6, 7, 8, 9, 10, 11, 12, 13, 14, 15, 16, 17, 18, 19] rfl (by decide +kernel)
set_option maxRecDepth 100000 in
theorem zg_zd_X11_digest_zd_X2_mixedInto_153_1 : GoodIn zw_zd_X11_digest zw_zd_X2_mixedInto_w1 := goodIn_r _ [20] rfl (by decide +kernel)
theorem zg_zd_X11_digest_zd_X2_mixedInto_153 : GoodIn zw_zd_X11_digest (wsV RX11 153 RX2 yX2_mixedInto zw_zd_X2_mixedInto) := goodIn_app zg_zd_X11_digest_zd_X2_mixedInto_153_a (goodIn_ca (a := (zw_zd_X2_mixedInto_w0 ++ (zw_zd_X2_mixedInto_w1))) (show GoodIn zw_zd_X11_digest (.code yX2_mixedInto cX2_mixedInto 5 (some .long) :: (zw_zd_X2_mixedInto_w0 ++ (zw_zd_X2_mixedInto_w1))) from goodIn_app zg_zd_X11_digest_zd_X2_mixedInto_153_c (goodIn_app zg_zd_X11_digest_zd_X2_mixedInto_153_0 (zg_zd_X11_digest_zd_X2_mixedInto_153_1))) (fun w h => ⟨(fun _ h => List.mem_cons_of_mem _ (List.mem_append_left _ (List.mem_append_left _ (List.mem_append_left _ (List.mem_append_left _ (List.mem_append_left _ (List.mem_append_left _ (List.mem_append_right _ h)))))))) w h, good_of_word (List.all_eq_true.mp zgw_X2 w h)⟩))
set_option maxRecDepth 100000 in
theorem zg_zd_X11_digest_zd_X10_mixedInto_157_a : GoodIn zw_zd_X11_digest [.methodLink RX11 157 yX10_mixedInto, .instanceMethod yX10_mixedInto, .selects RX10 yX10_mixedInto yX10_mixedInto, .initialized RX10] := goodIn_r _ [30, 31, 32, 33] rfl (by decide +kernel)
set_option maxRecDepth 100000 in
theorem zg_zd_X11_digest_zd_X10_mixedInto_157_c : GoodIn zw_zd_X11_digest [.code yX10_mixedInto cX10_mixedInto 4 (some .long)] := goodIn_r _ [26] rfl (by decide +kernel)
set_option maxRecDepth 100000 in
theorem zg_zd_X11_digest_zd_X10_mixedInto_157_0 : GoodIn zw_zd_X11_digest zw_zd_X10_mixedInto_w0 := goodIn_r _ [27, 28, 29] rfl (by decide +kernel)
theorem zg_zd_X11_digest_zd_X10_mixedInto_157 : GoodIn zw_zd_X11_digest (wsV RX11 157 RX10 yX10_mixedInto zw_zd_X10_mixedInto) := goodIn_app zg_zd_X11_digest_zd_X10_mixedInto_157_a (goodIn_ca (a := (zw_zd_X10_mixedInto_w0)) (show GoodIn zw_zd_X11_digest (.code yX10_mixedInto cX10_mixedInto 4 (some .long) :: (zw_zd_X10_mixedInto_w0)) from goodIn_app zg_zd_X11_digest_zd_X10_mixedInto_157_c (zg_zd_X11_digest_zd_X10_mixedInto_157_0)) (fun w h => ⟨(fun _ h => List.mem_cons_of_mem _ (List.mem_append_left _ (List.mem_append_left _ (List.mem_append_left _ (List.mem_append_left _ (List.mem_append_right _ h)))))) w h, good_of_word (List.all_eq_true.mp zgw_X10 w h)⟩))
set_option maxRecDepth 100000 in
theorem zg_zd_X11_digest_zd_X0_at_48_a : GoodIn zw_zd_X11_digest [.methodLink RX11 48 yX0_at, .instanceMethod yX0_at, .selects RX0 yX0_at yX0_at, .initialized RX0] := goodIn_r _ [39, 40, 41, 42] rfl (by decide +kernel)
set_option maxRecDepth 100000 in
theorem zg_zd_X11_digest_zd_X0_at_48_c : GoodIn zw_zd_X11_digest [.code yX0_at cX0_at 2 (some (.object "TemplateForge$Program"))] := goodIn_r _ [36] rfl (by decide +kernel)
set_option maxRecDepth 100000 in
theorem zg_zd_X11_digest_zd_X0_at_48_0 : GoodIn zw_zd_X11_digest zw_zd_X0_at_w0 := goodIn_r _ [37, 38] rfl (by decide +kernel)
theorem zg_zd_X11_digest_zd_X0_at_48 : GoodIn zw_zd_X11_digest (wsV RX11 48 RX0 yX0_at zw_zd_X0_at) := goodIn_app zg_zd_X11_digest_zd_X0_at_48_a (goodIn_ca (a := (zw_zd_X0_at_w0)) (show GoodIn zw_zd_X11_digest (.code yX0_at cX0_at 2 (some (.object "TemplateForge$Program")) :: (zw_zd_X0_at_w0)) from goodIn_app zg_zd_X11_digest_zd_X0_at_48_c (zg_zd_X11_digest_zd_X0_at_48_0)) (fun w h => ⟨(fun _ h => List.mem_cons_of_mem _ (List.mem_append_left _ (List.mem_append_left _ (List.mem_append_left _ (List.mem_append_right _ h))))) w h, good_of_word (List.all_eq_true.mp zgw_X0 w h)⟩))
set_option maxRecDepth 100000 in
theorem zg_zd_X11_digest_zd_X11_mixedWith_158_a : GoodIn zw_zd_X11_digest [.methodLink RX11 158 yX11_mixedWith, .static yX11_mixedWith, .initialized RX11] := goodIn_r _ [69, 70, 68] rfl (by decide +kernel)
set_option maxRecDepth 100000 in
theorem zg_zd_X11_digest_zd_X11_mixedWith_158_c : GoodIn zw_zd_X11_digest [.code yX11_mixedWith cX11_mixedWith 4 (some .long)] := goodIn_r _ [43] rfl (by decide +kernel)
set_option maxRecDepth 100000 in
theorem zg_zd_X11_digest_zd_X11_mixedWith_158_0 : GoodIn zw_zd_X11_digest zw_zd_X11_mixedWith_w0 := goodIn_r _ [44, 45, 46, 47, 48, 49, 50, 51, 52, 53, 54, 55, 56, 57, 58, 59] rfl (by decide +kernel)
set_option maxRecDepth 100000 in
theorem zg_zd_X11_digest_zd_X11_mixedWith_158_1 : GoodIn zw_zd_X11_digest zw_zd_X11_mixedWith_w1 := goodIn_r _ [60, 61, 62, 63, 64, 65, 66, 67, 68] rfl (by decide +kernel)
theorem zg_zd_X11_digest_zd_X11_mixedWith_158 : GoodIn zw_zd_X11_digest (va_wsS RX11 158 yX11_mixedWith zw_zd_X11_mixedWith) := goodIn_app zg_zd_X11_digest_zd_X11_mixedWith_158_a (goodIn_ca (a := (((zw_zd_X11_mixedWith_w0 ++ (zw_zd_X11_mixedWith_w1)) ++ wsX80) ++ wsX50)) (goodIn_ca (a := ((zw_zd_X11_mixedWith_w0 ++ (zw_zd_X11_mixedWith_w1)) ++ wsX80)) (goodIn_ca (a := (zw_zd_X11_mixedWith_w0 ++ (zw_zd_X11_mixedWith_w1))) (show GoodIn zw_zd_X11_digest (.code yX11_mixedWith cX11_mixedWith 4 (some .long) :: (zw_zd_X11_mixedWith_w0 ++ (zw_zd_X11_mixedWith_w1))) from goodIn_app zg_zd_X11_digest_zd_X11_mixedWith_158_c (goodIn_app zg_zd_X11_digest_zd_X11_mixedWith_158_0 (zg_zd_X11_digest_zd_X11_mixedWith_158_1))) (fun w h => ⟨(fun _ h => List.mem_cons_of_mem _ (List.mem_append_left _ (List.mem_append_left _ (List.mem_append_right _ h)))) w h, good_of_word (List.all_eq_true.mp zgw_X8 w h)⟩)) (fun w h => ⟨(fun _ h => List.mem_cons_of_mem _ (List.mem_append_left _ (List.mem_append_right _ h))) w h, good_of_word (List.all_eq_true.mp zgw_X5 w h)⟩)) (fun w h => ⟨(fun _ h => List.mem_cons_of_mem _ (List.mem_append_right _ h)) w h, good_of_word (List.all_eq_true.mp zgw_X1 w h)⟩))
set_option maxHeartbeats 16000000 in
set_option maxRecDepth 100000 in
theorem zd_X11_digest (l : Launch) (D : va_G) (cI cZ cP cF : Nat) (q : Nat → Nat → Nat) (S : CST) (Post : Int64 → Prop) (h : wp_X11_digest S Post) : Met l yX11_digest zw_zd_X11_digest ({ frames := 3, cells := 0, slots := 0, locals := 67 }) (va_Pc [.ref (q 0 0)] (fun U => va_P D vwCl (cW cI cZ cP cF q S) U.heap ∧ zF D cI cZ cP cF U)) (vp_Sl Post) 0 0 (fun _ => False) := by
  unfold wp_X11_digest at h
  refine Met.ofW (cc := cX11_digest) (maxL := 5) (ret := (some .long)) (by decide) rfl ?_
  intro p e s m args below meth c s₁ B hml hv
  obtain ⟨rfl, hP, hE⟩ := hv
  have hx := B.exec
  have hb := B.bytes
  have hr := B.returns
  have hts := atoms_spec (ws := zw_zd_X11_digest) B.pre
  have hown : s.vm.findClass RX11 = some m.cls := findClass_of_methodNamed B.named
  have hlocks := B.notSynchronized
  have hK := hE.k
  have hl := lv_entry ([.ref (q 0 0)]) (n := 5) (Nat.le_of_ble_eq_true rfl)
  rw [lg_entry_eq]
  generalize (lg_sl ([.ref (q 0 0)]) ++ List.replicate (5 - (lg_sl ([.ref (q 0 0)])).length) Slot.unset).toArray = ls at hl ⊢
  have hl : lv_has ls 5 [(0, .ref (q 0 0))] := hl
  refine lv_aload_n hx hb dX11_digest_0 rfl (lv_at hl 0 rfl) ?_
  obtain ⟨p_1, hp_1⟩ := cget_0 cI cZ cP cF q S
  have hi_1 : cin S 0 0 := Or.inl ⟨by decide, rfl⟩
  refine va_get (D := D) (ci := 11) (v := .ref (q 3 0)) (C := RX11) (T := TX11) (N := 4) hx hb hts (fun _ h => List.mem_cons_of_mem _ (List.mem_append_left _ (List.mem_append_left _ (List.mem_append_left _ (List.mem_append_left _ (List.mem_append_left _ (List.mem_append_left _ (List.mem_append_left _ (List.mem_append_right _ h))))))))) hown hK hP p_1 hp_1 rfl 1 (by decide) (hts (.fieldLink RX11 22 "TemplateForge" "data" "LTemplateForge$Data;") (List.mem_of_getElem? (i := 1) rfl)) (fun _ h9 => h9) rfl dX11_digest_1 ?_
  refine lv_ldc2 hx hb hown (hts (.constantLong RX11 151 (17)) (List.mem_of_getElem? (i := 2) rfl)) dX11_digest_4 ?_
  obtain ⟨p_2, hp_2⟩ := cget_3 cI cZ cP cF q S
  have hi_2 : cin S 3 0 := Or.inl ⟨by decide, rfl⟩
  refine vp_callSl (va_Run.run (va_runV (As := [.long 17]) (rest := []) ⟨hx, hb, hml, hown, hts⟩ (zd_X2_mixedInto l D cI cZ cP cF q S 17  _ h) (cwV 1 hts zg_zd_X11_digest_zd_X2_mixedInto_153 rfl rfl rfl (by decide +kernel) ⟨Nat.le_of_ble_eq_true rfl, Nat.le_of_ble_eq_true rfl⟩) ⟨zCR, va_recv hK hP (ci := 2) (q0 := p_2) rfl hp_2, fun U hU hW => ⟨rfl, by rw [hU]; exact hP, hE.warm hW⟩⟩ rfl rfl hl.1 rfl (lv_room (Nat.le_of_ble_eq_true rfl)) dX11_digest_7 ⟨Nat.le_of_ble_eq_true rfl, Nat.le_of_ble_eq_true rfl⟩)) (fun r3 h => ?_)
  refine lv_lstore_n (lv' := [(1, .long r3), (0, .ref (q 0 0))]) hx hb dX11_digest_10 rfl hl (by decide) rfl (fun ls hl => ?_)
  refine lv_aload_n hx hb dX11_digest_11 rfl (lv_at hl 1 rfl) ?_
  obtain ⟨p_4, hp_4⟩ := cget_0 cI cZ cP cF q S
  have hi_4 : cin S 0 0 := Or.inl ⟨by decide, rfl⟩
  refine va_get (D := D) (ci := 11) (v := .ref (q 12 0)) (C := RX11) (T := TX11) (N := 4) hx hb hts (fun _ h => List.mem_cons_of_mem _ (List.mem_append_left _ (List.mem_append_left _ (List.mem_append_left _ (List.mem_append_left _ (List.mem_append_left _ (List.mem_append_left _ (List.mem_append_left _ (List.mem_append_right _ h))))))))) hown hK hP p_4 hp_4 rfl 3 (by decide) (hts (.fieldLink RX11 40 "TemplateForge" "machine" "LTemplateForge$Machine;") (List.mem_of_getElem? (i := 24) rfl)) (fun _ h9 => h9) rfl dX11_digest_12 ?_
  obtain ⟨p_5, hp_5⟩ := cget_12 cI cZ cP cF q S
  have hi_5 : cin S 12 0 := Or.inl ⟨by decide, rfl⟩
  refine va_get (D := D) (ci := 7) (v := .ref (q 20 0)) (C := RX7) (T := TX7) (N := 10) hx hb hts (fun _ h => List.mem_cons_of_mem _ (List.mem_append_left _ (List.mem_append_left _ (List.mem_append_left _ (List.mem_append_left _ (List.mem_append_left _ (List.mem_append_right _ h))))))) hown hK hP p_5 hp_5 rfl 3 (by decide) (hts (.fieldLink RX11 88 "TemplateForge$Machine" "tally" "LTemplateForge$Tally;") (List.mem_of_getElem? (i := 25) rfl)) (fun _ h9 => h9) rfl dX11_digest_15 ?_
  refine lv_lload_n hx hb dX11_digest_18 rfl (lv_at hl 0 rfl) ?_
  obtain ⟨p_6, hp_6⟩ := cget_20 cI cZ cP cF q S
  have hi_6 : cin S 20 0 := Or.inl ⟨by decide, rfl⟩
  refine vp_callSl (va_Run.run (va_runV (As := [.long r3]) (rest := []) ⟨hx, hb, hml, hown, hts⟩ (zd_X10_mixedInto l D cI cZ cP cF q S r3  _ h) (cwV 1 hts zg_zd_X11_digest_zd_X10_mixedInto_157 rfl rfl rfl (by decide +kernel) ⟨Nat.le_of_ble_eq_true rfl, Nat.le_of_ble_eq_true rfl⟩) ⟨zCR, va_recv hK hP (ci := 10) (q0 := p_6) rfl hp_6, fun U hU hW => ⟨rfl, by rw [hU]; exact hP, hE.warm hW⟩⟩ rfl rfl hl.1 rfl (lv_room (Nat.le_of_ble_eq_true rfl)) dX11_digest_19 ⟨Nat.le_of_ble_eq_true rfl, Nat.le_of_ble_eq_true rfl⟩)) (fun r7 h => ?_)
  refine lv_lstore_n (lv' := [(1, .long r7), (0, .ref (q 0 0))]) hx hb dX11_digest_22 rfl hl (by decide) rfl (fun ls hl => ?_)
  refine lv_iconst (v := 0) hx hb dX11_digest_23 (by decide) ?_
  refine lv_istore_n (lv' := [(3, .int 0), (1, .long r7), (0, .ref (q 0 0))]) hx hb dX11_digest_24 rfl hl (by decide) rfl (fun ls hl => ?_)
  have EX_25_64 : ∀ (x64_1 : Int64) (ls : Array Slot), (Post x64_1) → lv_has ls 5 [(1, .long x64_1)] → W p l e (headSpec zw_zd_X11_digest ({ frames := 3, cells := 0, slots := 0, locals := 67 })).room s m ([.ref (q 0 0)] : List Value).toArray below meth c s.heap [] 0 0 (MQ below (vp_Sl Post) ([.ref (q 0 0)] : List Value).toArray s 0 0 (fun _ => False)) (F0 m 64 ls []) := by
    intro x64_1 ls h hl
    refine lv_lload_n hx hb dX11_digest_64 rfl (lv_at hl 0 rfl) ?_
    exact W.lret (v := x64_1) hx hb hr (fun t ht hW => ⟨_, rfl, h, ht⟩) (fun q h => by cases h) dX11_digest_65
  have LP_25 : ∀ (n_25 : Nat), ∀ (x25_1 : Int64) (x25_3 : Int32) (ls : Array Slot), wl_X11_digest_25 S (fun x64_1 => Post x64_1) Post n_25 x25_1 x25_3 → lv_has ls 5 [(0, .ref (q 0 0)), (1, .long x25_1), (3, .int x25_3)] → W p l e (headSpec zw_zd_X11_digest ({ frames := 3, cells := 0, slots := 0, locals := 67 })).room s m ([.ref (q 0 0)] : List Value).toArray below meth c s.heap [] 0 0 (MQ below (vp_Sl Post) ([.ref (q 0 0)] : List Value).toArray s 0 0 (fun _ => False)) (F0 m 25 ls []) := by
    intro n_25
    induction n_25 with
    | zero =>
      intro x25_1 x25_3 ls h hl
      exact False.elim h
    | succ n_25 ih_25 =>
      intro x25_1 x25_3 ls h hl
      unfold wl_X11_digest_25 at h
      refine lv_iload_n hx hb dX11_digest_25 rfl (lv_at hl 2 rfl) ?_
      refine lv_aload_n hx hb dX11_digest_26 rfl (lv_at hl 0 rfl) ?_
      obtain ⟨p_8, hp_8⟩ := cget_0 cI cZ cP cF q S
      have hi_8 : cin S 0 0 := Or.inl ⟨by decide, rfl⟩
      refine va_get (D := D) (ci := 11) (v := .ref (q 1 0)) (C := RX11) (T := TX11) (N := 4) hx hb hts (fun _ h => List.mem_cons_of_mem _ (List.mem_append_left _ (List.mem_append_left _ (List.mem_append_left _ (List.mem_append_left _ (List.mem_append_left _ (List.mem_append_left _ (List.mem_append_left _ (List.mem_append_right _ h))))))))) hown hK hP p_8 hp_8 rfl 0 (by decide) (hts (.fieldLink RX11 15 "TemplateForge" "book" "LTemplateForge$Book;") (List.mem_of_getElem? (i := 34) rfl)) (fun _ h9 => h9) rfl dX11_digest_27 ?_
      obtain ⟨p_9, hp_9⟩ := cget_1 cI cZ cP cF q S
      have hi_9 : cin S 1 0 := Or.inl ⟨by decide, rfl⟩
      refine va_get (D := D) (ci := 0) (v := .int (cv S 11 0 0)) (C := RX0) (T := TX0) (N := 2) hx hb hts (fun _ h => List.mem_cons_of_mem _ (List.mem_append_left _ (List.mem_append_left _ (List.mem_append_left _ (List.mem_append_right _ h))))) hown hK hP p_9 hp_9 rfl 1 (by decide) (hts (.fieldLink RX11 136 "TemplateForge$Book" "told" "I") (List.mem_of_getElem? (i := 35) rfl)) (fun _ h9 => h9) rfl dX11_digest_30 ?_
      refine lv_icmp_ge (tgt := 64) hx hb dX11_digest_33 (by decide) (fun c_10 => ?_) (fun c_10 => ?_)
      · have h := h.1 c_10
        exact EX_25_64  x25_1 _ h (lv_sub hl [1] rfl)
      · have h := h.2 c_10
        refine lv_aload_n hx hb dX11_digest_36 rfl (lv_at hl 0 rfl) ?_
        obtain ⟨p_11, hp_11⟩ := cget_0 cI cZ cP cF q S
        have hi_11 : cin S 0 0 := Or.inl ⟨by decide, rfl⟩
        refine va_get (D := D) (ci := 11) (v := .ref (q 1 0)) (C := RX11) (T := TX11) (N := 4) hx hb hts (fun _ h => List.mem_cons_of_mem _ (List.mem_append_left _ (List.mem_append_left _ (List.mem_append_left _ (List.mem_append_left _ (List.mem_append_left _ (List.mem_append_left _ (List.mem_append_left _ (List.mem_append_right _ h))))))))) hown hK hP p_11 hp_11 rfl 0 (by decide) (hts (.fieldLink RX11 15 "TemplateForge" "book" "LTemplateForge$Book;") (List.mem_of_getElem? (i := 34) rfl)) (fun _ h9 => h9) rfl dX11_digest_37 ?_
        refine lv_iload_n hx hb dX11_digest_40 rfl (lv_at hl 2 rfl) ?_
        obtain ⟨p_12, hp_12⟩ := cget_1 cI cZ cP cF q S
        have hi_12 : cin S 1 0 := Or.inl ⟨by decide, rfl⟩
        refine va_csq (va_Run.run (va_runV (As := [.int x25_3]) (rest := []) ⟨hx, hb, hml, hown, hts⟩ (zd_X0_at l D cI cZ cP cF q S x25_3  _ h) (cwV 1 hts zg_zd_X11_digest_zd_X0_at_48 rfl rfl rfl (by decide +kernel) ⟨Nat.le_of_ble_eq_true rfl, Nat.le_of_ble_eq_true rfl⟩) ⟨zCR, va_recv hK hP (ci := 0) (q0 := p_12) rfl hp_12, fun U hU hW => ⟨rfl, by rw [hU]; exact hP, hE.warm hW⟩⟩ rfl rfl hl.1 rfl (lv_room (Nat.le_of_ble_eq_true rfl)) dX11_digest_41 ⟨Nat.le_of_ble_eq_true rfl, Nat.le_of_ble_eq_true rfl⟩)) (fun o_13 ho_13 => ?_)
        obtain ⟨r13, rfl, h⟩ := ho_13
        by_cases hn_14 : r13 < 0
        · have h := h.1 hn_14
          rw [show va_rf (cno q 24 r13) = .null from cn_neg hn_14]
          refine lv_astoreN (lv' := [(4, .null), (0, .ref (q 0 0)), (1, .long x25_1), (3, .int x25_3)]) hx hb dX11_digest_44 hl (by decide) rfl (fun ls hl => ?_)
          refine lv_aloadN hx hb dX11_digest_46 (lv_at hl 0 rfl) ?_
          refine lv_ifnullN (tgt := 58) hx hb dX11_digest_48 (by decide) ?_
          refine lv_iinc (v := x25_3 + 1) (lv' := [(3, .int (x25_3 + 1)), (4, .null), (0, .ref (q 0 0)), (1, .long x25_1)]) hx hb dX11_digest_58 hl (k := 3) rfl rfl (by decide) rfl (fun ls hl => ?_)
          refine lv_goto (tgt := 25) hx hb dX11_digest_61 (by decide) ?_
          exact ih_25  x25_1 (x25_3 + 1) _ h (lv_sub hl [2, 3, 0] rfl)
        · have h := h.2 hn_14
          rw [show va_rf (cno q 24 r13) = .ref (q 24 (r13 : Int32).toNatClampNeg) from cn_pos hn_14]
          refine lv_astore (lv' := [(4, .ref (q 24 ((r13 : Int32).toNatClampNeg))), (0, .ref (q 0 0)), (1, .long x25_1), (3, .int x25_3)]) hx hb dX11_digest_44 hl (by decide) rfl (fun ls hl => ?_)
          refine lv_aload hx hb dX11_digest_46 (lv_at hl 0 rfl) ?_
          refine lv_ifnull hx hb dX11_digest_48 ?_
          refine lv_lload_n hx hb dX11_digest_51 rfl (lv_at hl 2 rfl) ?_
          refine lv_aload hx hb dX11_digest_52 (lv_at hl 0 rfl) ?_
          refine vp_callSl (va_Run.run (va_runS (As := [.long x25_1, .ref (q 24 ((r13 : Int32).toNatClampNeg))]) (rest := []) ⟨hx, hb, hml, hown, hts⟩ (zd_X11_mixedWith l D cI cZ cP cF q S x25_1 ((r13 : Int32).toNatClampNeg)  _ h) (va_cwS 2 hts zg_zd_X11_digest_zd_X11_mixedWith_158 rfl rfl rfl (by decide +kernel) ⟨Nat.le_of_ble_eq_true rfl, Nat.le_of_ble_eq_true rfl⟩) ⟨zCR, fun U hU hW => ⟨rfl, by rw [hU]; exact hP, hE.warm hW⟩⟩ rfl rfl hl.1 rfl (lv_room (Nat.le_of_ble_eq_true rfl)) dX11_digest_54 ⟨Nat.le_of_ble_eq_true rfl, Nat.le_of_ble_eq_true rfl⟩)) (fun r15 h => ?_)
          refine lv_lstore_n (lv' := [(1, .long r15), (4, .ref (q 24 ((r13 : Int32).toNatClampNeg))), (0, .ref (q 0 0)), (3, .int x25_3)]) hx hb dX11_digest_57 rfl hl (by decide) rfl (fun ls hl => ?_)
          refine lv_iinc (v := x25_3 + 1) (lv' := [(3, .int (x25_3 + 1)), (1, .long r15), (4, .ref (q 24 ((r13 : Int32).toNatClampNeg))), (0, .ref (q 0 0))]) hx hb dX11_digest_58 hl (k := 3) rfl rfl (by decide) rfl (fun ls hl => ?_)
          refine lv_goto (tgt := 25) hx hb dX11_digest_61 (by decide) ?_
          exact ih_25  r15 (x25_3 + 1) _ h (lv_sub hl [3, 1, 0] rfl)
  obtain ⟨n_25, h⟩ := h
  exact LP_25 n_25 r7 0 _ h (lv_sub hl [2, 1, 0] rfl)
