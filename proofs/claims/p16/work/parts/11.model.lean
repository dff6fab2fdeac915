def wp_X12_makeWhen (S : MST) (a1 : Int32) (a2 : Int32) (Post : MST → Prop) : Prop :=
  vp_in (a2 - 1) 9 ∧ (((¬ (((S 35 (a2 - 1 : Int32).toNatClampNeg) : Int32) = 0)) → (vp_in (a2 - 1) 9 ∧ (((¬ (((S 36 (a2 - 1 : Int32).toNatClampNeg) : Int32) = 0)) → (vp_in (a2 - 1) 9 ∧ (∀ S5 : MST, S5 = ms S 35 (upd (S 35) (a2 - 1 : Int32).toNatClampNeg (vp_nar .boolean 0)) → (Post S5)))) ∧ ((((S 36 (a2 - 1 : Int32).toNatClampNeg) : Int32) = 0) → (wp_X12_layAll S (a2 - 1) (fun S6 => wp_X12_part S6 8 a1 0 0 (fun S7 => vp_in (a2 - 1) 9 ∧ (∀ S8 : MST, S8 = ms S7 35 (upd (S7 35) (a2 - 1 : Int32).toNatClampNeg (vp_nar .boolean 0)) → (Post S8))))))))) ∧ ((((S 35 (a2 - 1 : Int32).toNatClampNeg) : Int32) = 0) → (wp_X12_layAll S (a2 - 1) (fun S9 => wp_X12_part S9 9 a1 (6 + a2) 0 (fun S10 => vp_in (a2 - 1) 9 ∧ (∀ S11 : MST, S11 = ms S10 35 (upd (S10 35) (a2 - 1 : Int32).toNatClampNeg (vp_nar .boolean 0)) → (Post S11)))))))
def zw_zd_X12_makeWhen_w0 : List Cond := [.fieldLink RX12 105 "TemplateForgeModel" "placeKnown" "[Z", .fieldLink RX12 108 "TemplateForgeModel" "placeIs" "[I", .code yX12_layAll cX12_layAll 3 none, .code yX12_layOne cX12_layOne 2 none, .code yX12_part cX12_part 6 none, .fieldLink RX12 181 "TemplateForgeModel" "code" "I", .fieldLink RX12 74 "TemplateForgeModel" "partMany" "[I", .fieldLink RX12 81 "TemplateForgeModel" "partOp" "[I", .fieldLink RX12 84 "TemplateForgeModel" "partD" "[I", .fieldLink RX12 87 "TemplateForgeModel" "partA" "[I", .fieldLink RX12 90 "TemplateForgeModel" "partB" "[I", .fieldLink RX12 93 "TemplateForgeModel" "partOf" "[I", .fieldLink RX12 184 "TemplateForgeModel" "owner" "I", .methodLink RX12 187 yX12_part, .instanceMethod yX12_part, .selects RX12 yX12_part yX12_part]
def zw_zd_X12_makeWhen_w1 : List Cond := [.initialized RX12, .methodLink RX12 191 yX12_layOne, .instanceMethod yX12_layOne, .selects RX12 yX12_layOne yX12_layOne, .methodLink RX12 198 yX12_layAll, .instanceMethod yX12_layAll, .selects RX12 yX12_layAll yX12_layAll]
def zw_zd_X12_makeWhen : List Cond := .code yX12_makeWhen cX12_makeWhen 3 none :: ((zw_zd_X12_makeWhen_w0 ++ (zw_zd_X12_makeWhen_w1)) ++ wsX120)
set_option maxRecDepth 100000 in
theorem zg_zd_X12_makeWhen_zd_X12_layAll_198_a : GoodIn zw_zd_X12_makeWhen [.methodLink RX12 198 yX12_layAll, .instanceMethod yX12_layAll, .selects RX12 yX12_layAll yX12_layAll, .initialized RX12] := goodIn_r _ [21, 22, 23, 17] rfl (by decide +kernel)
set_option maxRecDepth 100000 in
theorem zg_zd_X12_makeWhen_zd_X12_layAll_198_c : GoodIn zw_zd_X12_makeWhen [.code yX12_layAll cX12_layAll 3 none] := goodIn_r _ [3] rfl (by decide +kernel)
set_option maxRecDepth 100000 in
theorem zg_zd_X12_makeWhen_zd_X12_layAll_198_0 : GoodIn zw_zd_X12_makeWhen zw_zd_X12_layAll_w0 := goodIn_r _ [4, 1, 2, 5, 6, 7, 8, 9, 10, 11, 12, 13, 14, 15, 16, 17] rfl (by decide +kernel)
set_option maxRecDepth 100000 in
theorem zg_zd_X12_makeWhen_zd_X12_layAll_198_1 : GoodIn zw_zd_X12_makeWhen zw_zd_X12_layAll_w1 := goodIn_r _ [18, 19, 20] rfl (by decide +kernel)
theorem zg_zd_X12_makeWhen_zd_X12_layAll_198 : GoodIn zw_zd_X12_makeWhen (wsV RX12 198 RX12 yX12_layAll zw_zd_X12_layAll) := goodIn_app zg_zd_X12_makeWhen_zd_X12_layAll_198_a (goodIn_ca (a := (zw_zd_X12_layAll_w0 ++ (zw_zd_X12_layAll_w1))) (show GoodIn zw_zd_X12_makeWhen (.code yX12_layAll cX12_layAll 3 none :: (zw_zd_X12_layAll_w0 ++ (zw_zd_X12_layAll_w1))) from goodIn_app zg_zd_X12_makeWhen_zd_X12_layAll_198_c (goodIn_app zg_zd_X12_makeWhen_zd_X12_layAll_198_0 (zg_zd_X12_makeWhen_zd_X12_layAll_198_1))) (fun w h => ⟨(fun _ h => List.mem_cons_of_mem _ (List.mem_append_right _ h)) w h, good_of_word (List.all_eq_true.mp zgw_X12 w h)⟩))
set_option maxRecDepth 100000 in
theorem zg_zd_X12_makeWhen_zd_X12_part_187_a : GoodIn zw_zd_X12_makeWhen [.methodLink RX12 187 yX12_part, .instanceMethod yX12_part, .selects RX12 yX12_part yX12_part, .initialized RX12] := goodIn_r _ [14, 15, 16, 17] rfl (by decide +kernel)
set_option maxRecDepth 100000 in
theorem zg_zd_X12_makeWhen_zd_X12_part_187_c : GoodIn zw_zd_X12_makeWhen [.code yX12_part cX12_part 6 none] := goodIn_r _ [5] rfl (by decide +kernel)
set_option maxRecDepth 100000 in
theorem zg_zd_X12_makeWhen_zd_X12_part_187_0 : GoodIn zw_zd_X12_makeWhen zw_zd_X12_part_w0 := goodIn_r _ [6, 7, 8, 9, 10, 11, 12, 13] rfl (by decide +kernel)
theorem zg_zd_X12_makeWhen_zd_X12_part_187 : GoodIn zw_zd_X12_makeWhen (wsV RX12 187 RX12 yX12_part zw_zd_X12_part) := goodIn_app zg_zd_X12_makeWhen_zd_X12_part_187_a (goodIn_ca (a := (zw_zd_X12_part_w0)) (show GoodIn zw_zd_X12_makeWhen (.code yX12_part cX12_part 6 none :: (zw_zd_X12_part_w0)) from goodIn_app zg_zd_X12_makeWhen_zd_X12_part_187_c (zg_zd_X12_makeWhen_zd_X12_part_187_0)) (fun w h => ⟨(fun _ h => List.mem_cons_of_mem _ (List.mem_append_right _ h)) w h, good_of_word (List.all_eq_true.mp zgw_X12 w h)⟩))
set_option maxHeartbeats 16000000 in
set_option maxRecDepth 100000 in
theorem zd_X12_makeWhen (l : Launch) (D : va_G) (cI cZ cP cF : Nat) (h0 : Nat) (q : Nat → Nat) (S : MST) (a1 : Int32) (a2 : Int32) (sz : Nat) (Post : MST → Prop) (h : wp_X12_makeWhen S a1 a2 Post) : Met l yX12_makeWhen zw_zd_X12_makeWhen ({ frames := 3, cells := 0, slots := 0, locals := 68 }) (va_Pc [.ref h0, .int a1, .int a2] (fun U => U.heap.size = sz ∧ va_P D vwCl (mW cI cZ h0 q S) U.heap ∧ zE D cI cZ cP cF U ∧ va_D (fun _ => True) (mW cI cZ h0 q S))) (va_Qv (fun S' => Post S') (fun (S' : MST) t => va_P D vwCl (mW cI cZ h0 q S') t.heap ∧ va_D (va_A (mW cI cZ h0 q S) sz) (mW cI cZ h0 q S')) (va_A (mW cI cZ h0 q S) sz)) 0 0 (va_A (mW cI cZ h0 q S) sz) := by
  unfold wp_X12_makeWhen at h
  refine Met.ofW (cc := cX12_makeWhen) (maxL := 3) (ret := none) (by decide) rfl ?_
  intro p e s m args below meth c s₁ B hml hv
  obtain ⟨rfl, hsz, hP, hE, hD0⟩ := hv
  have hx := B.exec
  have hb := B.bytes
  have hr := B.returns
  have hts := atoms_spec (ws := zw_zd_X12_makeWhen) B.pre
  have hown : s.vm.findClass RX12 = some m.cls := findClass_of_methodNamed B.named
  have hlocks := B.notSynchronized
  have hK := hE.k
  subst hsz
  have hD := hD0.self (sz := s.heap.size)
  generalize hAe : va_A (mW cI cZ h0 q S) s.heap.size = A at hD ⊢
  have hA : ∀ q : Nat, s.heap.size ≤ q → A q := fun q h => by rw [← hAe]; exact Or.inr h
  have hl := lv_entry ([.ref h0, .int a1, .int a2]) (n := 3) (Nat.le_of_ble_eq_true rfl)
  rw [lg_entry_eq]
  generalize (lg_sl ([.ref h0, .int a1, .int a2]) ++ List.replicate (3 - (lg_sl ([.ref h0, .int a1, .int a2])).length) Slot.unset).toArray = ls at hl ⊢
  have hl : lv_has ls 3 [(0, .ref h0), (1, .int a1), (2, .int a2)] := hl
  have key : ∀ (H : Heap) (locs : List Loc), va_P D vwCl (mW cI cZ h0 q S) H → va_S A s.heap H locs → W p l e (headSpec zw_zd_X12_makeWhen ({ frames := 3, cells := 0, slots := 0, locals := 68 })).room s m ([.ref h0, .int a1, .int a2] : List Value).toArray below meth c H locs 0 0 (MQ below (va_Qv (fun S' => Post S') (fun (S' : MST) t => va_P D vwCl (mW cI cZ h0 q S') t.heap ∧ va_D A (mW cI cZ h0 q S')) A) ([.ref h0, .int a1, .int a2] : List Value).toArray s 0 0 A) (F0 m 0 ls []) := by
    intro H locs hP hS
    refine lv_aload_n hx hb dX12_makeWhen_0 rfl (lv_at hl 0 rfl) ?_
    refine va_get (D := D) (ci := 12) (v := .ref (q 35)) (C := RX12) (T := TX12) (N := 52) hx hb hts (fun _ h => List.mem_cons_of_mem _ (List.mem_append_right _ h)) hown hK hP 0 rfl rfl 35 (by decide) (hts (.fieldLink RX12 105 "TemplateForgeModel" "placeKnown" "[Z") (List.mem_of_getElem? (i := 1) rfl)) (fun _ h9 => h9) rfl dX12_makeWhen_1 ?_
    refine lv_iload_n hx hb dX12_makeWhen_4 rfl (lv_at hl 2 rfl) ?_
    refine lv_iconst (v := 1) hx hb dX12_makeWhen_5 (by decide) ?_
    refine lv_isub hx hb dX12_makeWhen_6 ?_
    have hin_1 := h.1
    have h := h.2
    refine va_zald hx hb hK hP 32 1 rfl rfl hin_1 dX12_makeWhen_7 ?_
    refine lv_if_ne (tgt := 33) hx hb dX12_makeWhen_8 (by decide) (fun c_2 => ?_) (fun c_2 => ?_)
    · have h := h.1 c_2
      refine lv_aload_n hx hb dX12_makeWhen_33 rfl (lv_at hl 0 rfl) ?_
      refine va_get (D := D) (ci := 12) (v := .ref (q 36)) (C := RX12) (T := TX12) (N := 52) hx hb hts (fun _ h => List.mem_cons_of_mem _ (List.mem_append_right _ h)) hown hK hP 0 rfl rfl 36 (by decide) (hts (.fieldLink RX12 108 "TemplateForgeModel" "placeIs" "[I") (List.mem_of_getElem? (i := 2) rfl)) (fun _ h9 => h9) rfl dX12_makeWhen_34 ?_
      refine lv_iload_n hx hb dX12_makeWhen_37 rfl (lv_at hl 2 rfl) ?_
      refine lv_iconst (v := 1) hx hb dX12_makeWhen_38 (by decide) ?_
      refine lv_isub hx hb dX12_makeWhen_39 ?_
      have hin_3 := h.1
      have h := h.2
      refine va_iald hx hb hK hP 33 0 rfl rfl hin_3 dX12_makeWhen_40 ?_
      refine lv_if_ne (tgt := 60) hx hb dX12_makeWhen_41 (by decide) (fun c_4 => ?_) (fun c_4 => ?_)
      · have h := h.1 c_4
        refine lv_aload_n hx hb dX12_makeWhen_60 rfl (lv_at hl 0 rfl) ?_
        refine va_get (D := D) (ci := 12) (v := .ref (q 35)) (C := RX12) (T := TX12) (N := 52) hx hb hts (fun _ h => List.mem_cons_of_mem _ (List.mem_append_right _ h)) hown hK hP 0 rfl rfl 35 (by decide) (hts (.fieldLink RX12 105 "TemplateForgeModel" "placeKnown" "[Z") (List.mem_of_getElem? (i := 1) rfl)) (fun _ h9 => h9) rfl dX12_makeWhen_61 ?_
        refine lv_iload_n hx hb dX12_makeWhen_64 rfl (lv_at hl 2 rfl) ?_
        refine lv_iconst (v := 1) hx hb dX12_makeWhen_65 (by decide) ?_
        refine lv_isub hx hb dX12_makeWhen_66 ?_
        refine lv_iconst (v := 0) hx hb dX12_makeWhen_67 (by decide) ?_
        have hin_5 := h.1
        have h := h.2
        refine va_zast hx hb hK hP hD hS 32 1 rfl rfl hin_5 dX12_makeWhen_68 (fun H locs hP hD hS => ?_)
        obtain ⟨S5, eS5⟩ : ∃ z, z = ms S 35 (upd (S 35) (a2 - 1 : Int32).toNatClampNeg (vp_nar .boolean 0)) := ⟨_, rfl⟩
        have hP : va_P D vwCl (mW cI cZ h0 q S5) H := by rw [eS5]; exact hP
        have hD : va_D A (mW cI cZ h0 q S5) := by rw [eS5]; exact hD
        have h := h S5 eS5
        exact W.vret hx hb hr (fun t ht hW => ⟨⟨S5, rfl, h, by rw [ht]; exact hP, hD⟩, hS.F ht⟩) hS.2.2 dX12_makeWhen_69
      · have h := h.2 c_4
        refine lv_aload_n hx hb dX12_makeWhen_44 rfl (lv_at hl 0 rfl) ?_
        refine lv_iload_n hx hb dX12_makeWhen_45 rfl (lv_at hl 2 rfl) ?_
        refine lv_iconst (v := 1) hx hb dX12_makeWhen_46 (by decide) ?_
        refine lv_isub hx hb dX12_makeWhen_47 ?_
        have hFc := zm_free hD hS hA
        refine va_callv (va_runV (As := [.int (a2 - 1)]) (rest := []) ⟨hx, hb, hml, hown, hts⟩ (zd_X12_layAll l D cI cZ cP cF h0 q S (a2 - 1) H.size _ h) (cwV 1 hts zg_zd_X12_makeWhen_zd_X12_layAll_198 rfl rfl rfl (by decide +kernel) ⟨Nat.le_of_ble_eq_true rfl, Nat.le_of_ble_eq_true rfl⟩) ⟨zBW, va_recv hK hP (ci := 12) (q0 := 0) rfl rfl, fun U hU hW => ⟨rfl, by rw [hU], by rw [hU]; exact hP, hE.warm hW, hD.weaken (fun _ _ _ _ => trivial)⟩⟩ rfl rfl hl.1 rfl (lv_room (Nat.le_of_ble_eq_true rfl)) dX12_makeWhen_48 ⟨Nat.le_of_ble_eq_true rfl, Nat.le_of_ble_eq_true rfl⟩) hS (fun q _ h => hFc q h) hFc (fun S6 t H locs ht hvm h hB hz1 hk1 hS => ?_)
        obtain ⟨hP, hD1⟩ := hB
        rw [ht] at hP
        have hD := hD1.weaken (fun k q _ hq => hFc q.1 hq)
        refine lv_aload_n hx hb dX12_makeWhen_51 rfl (lv_at hl 0 rfl) ?_
        refine lv_bipush (v := 8) hx hb dX12_makeWhen_52 (by decide) ?_
        refine lv_iload_n hx hb dX12_makeWhen_54 rfl (lv_at hl 1 rfl) ?_
        refine lv_iconst (v := 0) hx hb dX12_makeWhen_55 (by decide) ?_
        refine lv_iconst (v := 0) hx hb dX12_makeWhen_56 (by decide) ?_
        have hFc := zm_free hD hS hA
        refine va_callv (va_runV (As := [.int 8, .int a1, .int 0, .int 0]) (rest := []) ⟨hx, hb, hml, hown, hts⟩ (zd_X12_part l D cI cZ cP cF h0 q S6 8 a1 0 0 H.size _ h) (cwV 4 hts zg_zd_X12_makeWhen_zd_X12_part_187 rfl rfl rfl (by decide +kernel) ⟨Nat.le_of_ble_eq_true rfl, Nat.le_of_ble_eq_true rfl⟩) ⟨zBW, va_recv hK hP (ci := 12) (q0 := 0) rfl rfl, fun U hU hW => ⟨rfl, by rw [hU], by rw [hU]; exact hP, hE.warm hW, hD.weaken (fun _ _ _ _ => trivial)⟩⟩ rfl rfl hl.1 rfl (lv_room (Nat.le_of_ble_eq_true rfl)) dX12_makeWhen_57 ⟨Nat.le_of_ble_eq_true rfl, Nat.le_of_ble_eq_true rfl⟩) hS (fun q _ h => hFc q h) hFc (fun S7 t H locs ht hvm h hB hz1 hk1 hS => ?_)
        obtain ⟨hP, hD1⟩ := hB
        rw [ht] at hP
        have hD := hD1.weaken (fun k q _ hq => hFc q.1 hq)
        refine lv_aload_n hx hb dX12_makeWhen_60 rfl (lv_at hl 0 rfl) ?_
        refine va_get (D := D) (ci := 12) (v := .ref (q 35)) (C := RX12) (T := TX12) (N := 52) hx hb hts (fun _ h => List.mem_cons_of_mem _ (List.mem_append_right _ h)) hown hK hP 0 rfl rfl 35 (by decide) (hts (.fieldLink RX12 105 "TemplateForgeModel" "placeKnown" "[Z") (List.mem_of_getElem? (i := 1) rfl)) (fun _ h9 => h9) rfl dX12_makeWhen_61 ?_
        refine lv_iload_n hx hb dX12_makeWhen_64 rfl (lv_at hl 2 rfl) ?_
        refine lv_iconst (v := 1) hx hb dX12_makeWhen_65 (by decide) ?_
        refine lv_isub hx hb dX12_makeWhen_66 ?_
        refine lv_iconst (v := 0) hx hb dX12_makeWhen_67 (by decide) ?_
        have hin_8 := h.1
        have h := h.2
        refine va_zast hx hb hK hP hD hS 32 1 rfl rfl hin_8 dX12_makeWhen_68 (fun H locs hP hD hS => ?_)
        obtain ⟨S8, eS8⟩ : ∃ z, z = ms S7 35 (upd (S7 35) (a2 - 1 : Int32).toNatClampNeg (vp_nar .boolean 0)) := ⟨_, rfl⟩
        have hP : va_P D vwCl (mW cI cZ h0 q S8) H := by rw [eS8]; exact hP
        have hD : va_D A (mW cI cZ h0 q S8) := by rw [eS8]; exact hD
        have h := h S8 eS8
        exact W.vret hx hb hr (fun t ht hW => ⟨⟨S8, rfl, h, by rw [ht]; exact hP, hD⟩, hS.F ht⟩) hS.2.2 dX12_makeWhen_69
    · have h := h.2 c_2
      refine lv_aload_n hx hb dX12_makeWhen_11 rfl (lv_at hl 0 rfl) ?_
      refine lv_iload_n hx hb dX12_makeWhen_12 rfl (lv_at hl 2 rfl) ?_
      refine lv_iconst (v := 1) hx hb dX12_makeWhen_13 (by decide) ?_
      refine lv_isub hx hb dX12_makeWhen_14 ?_
      have hFc := zm_free hD hS hA
      refine va_callv (va_runV (As := [.int (a2 - 1)]) (rest := []) ⟨hx, hb, hml, hown, hts⟩ (zd_X12_layAll l D cI cZ cP cF h0 q S (a2 - 1) H.size _ h) (cwV 1 hts zg_zd_X12_makeWhen_zd_X12_layAll_198 rfl rfl rfl (by decide +kernel) ⟨Nat.le_of_ble_eq_true rfl, Nat.le_of_ble_eq_true rfl⟩) ⟨zBW, va_recv hK hP (ci := 12) (q0 := 0) rfl rfl, fun U hU hW => ⟨rfl, by rw [hU], by rw [hU]; exact hP, hE.warm hW, hD.weaken (fun _ _ _ _ => trivial)⟩⟩ rfl rfl hl.1 rfl (lv_room (Nat.le_of_ble_eq_true rfl)) dX12_makeWhen_15 ⟨Nat.le_of_ble_eq_true rfl, Nat.le_of_ble_eq_true rfl⟩) hS (fun q _ h => hFc q h) hFc (fun S9 t H locs ht hvm h hB hz1 hk1 hS => ?_)
      obtain ⟨hP, hD1⟩ := hB
      rw [ht] at hP
      have hD := hD1.weaken (fun k q _ hq => hFc q.1 hq)
      refine lv_aload_n hx hb dX12_makeWhen_18 rfl (lv_at hl 0 rfl) ?_
      refine lv_bipush (v := 9) hx hb dX12_makeWhen_19 (by decide) ?_
      refine lv_iload_n hx hb dX12_makeWhen_21 rfl (lv_at hl 1 rfl) ?_
      refine lv_bipush (v := 6) hx hb dX12_makeWhen_22 (by decide) ?_
      refine lv_iload_n hx hb dX12_makeWhen_24 rfl (lv_at hl 2 rfl) ?_
      refine lv_iadd hx hb dX12_makeWhen_25 ?_
      refine lv_iconst (v := 0) hx hb dX12_makeWhen_26 (by decide) ?_
      have hFc := zm_free hD hS hA
      refine va_callv (va_runV (As := [.int 9, .int a1, .int (6 + a2), .int 0]) (rest := []) ⟨hx, hb, hml, hown, hts⟩ (zd_X12_part l D cI cZ cP cF h0 q S9 9 a1 (6 + a2) 0 H.size _ h) (cwV 4 hts zg_zd_X12_makeWhen_zd_X12_part_187 rfl rfl rfl (by decide +kernel) ⟨Nat.le_of_ble_eq_true rfl, Nat.le_of_ble_eq_true rfl⟩) ⟨zBW, va_recv hK hP (ci := 12) (q0 := 0) rfl rfl, fun U hU hW => ⟨rfl, by rw [hU], by rw [hU]; exact hP, hE.warm hW, hD.weaken (fun _ _ _ _ => trivial)⟩⟩ rfl rfl hl.1 rfl (lv_room (Nat.le_of_ble_eq_true rfl)) dX12_makeWhen_27 ⟨Nat.le_of_ble_eq_true rfl, Nat.le_of_ble_eq_true rfl⟩) hS (fun q _ h => hFc q h) hFc (fun S10 t H locs ht hvm h hB hz1 hk1 hS => ?_)
      obtain ⟨hP, hD1⟩ := hB
      rw [ht] at hP
      have hD := hD1.weaken (fun k q _ hq => hFc q.1 hq)
      refine lv_goto (tgt := 60) hx hb dX12_makeWhen_30 (by decide) ?_
      refine lv_aload_n hx hb dX12_makeWhen_60 rfl (lv_at hl 0 rfl) ?_
      refine va_get (D := D) (ci := 12) (v := .ref (q 35)) (C := RX12) (T := TX12) (N := 52) hx hb hts (fun _ h => List.mem_cons_of_mem _ (List.mem_append_right _ h)) hown hK hP 0 rfl rfl 35 (by decide) (hts (.fieldLink RX12 105 "TemplateForgeModel" "placeKnown" "[Z") (List.mem_of_getElem? (i := 1) rfl)) (fun _ h9 => h9) rfl dX12_makeWhen_61 ?_
      refine lv_iload_n hx hb dX12_makeWhen_64 rfl (lv_at hl 2 rfl) ?_
      refine lv_iconst (v := 1) hx hb dX12_makeWhen_65 (by decide) ?_
      refine lv_isub hx hb dX12_makeWhen_66 ?_
      refine lv_iconst (v := 0) hx hb dX12_makeWhen_67 (by decide) ?_
      have hin_11 := h.1
      have h := h.2
      refine va_zast hx hb hK hP hD hS 32 1 rfl rfl hin_11 dX12_makeWhen_68 (fun H locs hP hD hS => ?_)
      obtain ⟨S11, eS11⟩ : ∃ z, z = ms S10 35 (upd (S10 35) (a2 - 1 : Int32).toNatClampNeg (vp_nar .boolean 0)) := ⟨_, rfl⟩
      have hP : va_P D vwCl (mW cI cZ h0 q S11) H := by rw [eS11]; exact hP
      have hD : va_D A (mW cI cZ h0 q S11) := by rw [eS11]; exact hD
      have h := h S11 eS11
      exact W.vret hx hb hr (fun t ht hW => ⟨⟨S11, rfl, h, by rw [ht]; exact hP, hD⟩, hS.F ht⟩) hS.2.2 dX12_makeWhen_69
  exact key _ _ hP va_S.rf
def wp_X12_sumOf (a0 : Int32) (a1 : Int32) (a2 : Int32) (Post : Int32 → Prop) : Prop :=
  ((a0 : Int32).toInt < 3 ∨ 7 < (a0 : Int32).toInt → (((¬ ((a1 : Int32) = a2)) → (Post 0)) ∧ (((a1 : Int32) = a2) → (Post 1)))) ∧ (a0 = 3 → (Post (a1 + a2))) ∧ (a0 = 4 → (Post (a1 - a2))) ∧ (a0 = 5 → (Post (a1 * a2))) ∧ (a0 = 6 → (¬ (a2 : Int32) = 0 ∧ (Post (a1 / a2)))) ∧ (a0 = 7 → (((a2 ≤ a1) → (Post 0)) ∧ ((¬ (a2 ≤ a1)) → (Post 1))))
def zw_zd_X12_sumOf : List Cond := .code yX12_sumOf cX12_sumOf 3 (some .int) :: ((([] : List Cond)))
set_option maxHeartbeats 16000000 in
set_option maxRecDepth 100000 in
theorem zd_X12_sumOf (l : Launch) (D : va_G) (cI cZ cP cF : Nat) (a0 : Int32) (a1 : Int32) (a2 : Int32) (Post : Int32 → Prop) (h : wp_X12_sumOf a0 a1 a2 Post) : Met l yX12_sumOf zw_zd_X12_sumOf ({ frames := 0, cells := 0, slots := 0, locals := 0 }) (va_Pc [.int a0, .int a1, .int a2] (fun U => va_P D vwCl [] U.heap ∧ zE D cI cZ cP cF U)) (vp_Si Post) 0 0 (fun _ => False) := by
  unfold wp_X12_sumOf at h
  refine Met.ofW (cc := cX12_sumOf) (maxL := 3) (ret := (some .int)) (by decide) rfl ?_
  intro p e s m args below meth c s₁ B hml hv
  obtain ⟨rfl, hP, hE⟩ := hv
  have hx := B.exec
  have hb := B.bytes
  have hr := B.returns
  have hts := atoms_spec (ws := zw_zd_X12_sumOf) B.pre
  have hown : s.vm.findClass RX12 = some m.cls := findClass_of_methodNamed B.named
  have hlocks := B.notSynchronized
  have hK := hE.k
  have hl := lv_entry ([.int a0, .int a1, .int a2]) (n := 3) (Nat.le_of_ble_eq_true rfl)
  rw [lg_entry_eq]
  generalize (lg_sl ([.int a0, .int a1, .int a2]) ++ List.replicate (3 - (lg_sl ([.int a0, .int a1, .int a2])).length) Slot.unset).toArray = ls at hl ⊢
  have hl : lv_has ls 3 [(0, .int a0), (1, .int a1), (2, .int a2)] := hl
  refine lv_iload_n hx hb dX12_sumOf_0 rfl (lv_at hl 0 rfl) ?_
  rcases zt_3_7 a0 with h_out | h_in | h_in | h_in | h_in | h_in
  · have h := h.1 h_out
    refine lv_tableOut (tgt := 63) hx hb dX12_sumOf_1 h_out (by decide) ?_
    refine lv_iload_n hx hb dX12_sumOf_63 rfl (lv_at hl 1 rfl) ?_
    refine lv_iload_n hx hb dX12_sumOf_64 rfl (lv_at hl 2 rfl) ?_
    refine lv_icmp_ne (tgt := 72) hx hb dX12_sumOf_65 (by decide) (fun c_1 => ?_) (fun c_1 => ?_)
    · have h := h.1 c_1
      refine lv_iconst (v := 0) hx hb dX12_sumOf_72 (by decide) ?_
      exact W.iret (v := 0) hx hb hr (fun t ht hW => ⟨_, rfl, h, ht⟩) (fun q h => by cases h) dX12_sumOf_73
    · have h := h.2 c_1
      refine lv_iconst (v := 1) hx hb dX12_sumOf_68 (by decide) ?_
      refine lv_goto (tgt := 73) hx hb dX12_sumOf_69 (by decide) ?_
      exact W.iret (v := 1) hx hb hr (fun t ht hW => ⟨_, rfl, h, ht⟩) (fun q h => by cases h) dX12_sumOf_73
  · have h := h.2.1 h_in
    refine lv_tableIn (off := 35) (tgt := 36) hx hb dX12_sumOf_1 (by rw [h_in]; decide) (by rw [h_in]; decide) (by rw [h_in]; decide) (by decide) ?_
    refine lv_iload_n hx hb dX12_sumOf_36 rfl (lv_at hl 1 rfl) ?_
    refine lv_iload_n hx hb dX12_sumOf_37 rfl (lv_at hl 2 rfl) ?_
    refine lv_iadd hx hb dX12_sumOf_38 ?_
    exact W.iret (v := a1 + a2) hx hb hr (fun t ht hW => ⟨_, rfl, h, ht⟩) (fun q h => by cases h) dX12_sumOf_39
  · have h := h.2.2.1 h_in
    refine lv_tableIn (off := 39) (tgt := 40) hx hb dX12_sumOf_1 (by rw [h_in]; decide) (by rw [h_in]; decide) (by rw [h_in]; decide) (by decide) ?_
    refine lv_iload_n hx hb dX12_sumOf_40 rfl (lv_at hl 1 rfl) ?_
    refine lv_iload_n hx hb dX12_sumOf_41 rfl (lv_at hl 2 rfl) ?_
    refine lv_isub hx hb dX12_sumOf_42 ?_
    exact W.iret (v := a1 - a2) hx hb hr (fun t ht hW => ⟨_, rfl, h, ht⟩) (fun q h => by cases h) dX12_sumOf_43
  · have h := h.2.2.2.1 h_in
    refine lv_tableIn (off := 43) (tgt := 44) hx hb dX12_sumOf_1 (by rw [h_in]; decide) (by rw [h_in]; decide) (by rw [h_in]; decide) (by decide) ?_
    refine lv_iload_n hx hb dX12_sumOf_44 rfl (lv_at hl 1 rfl) ?_
    refine lv_iload_n hx hb dX12_sumOf_45 rfl (lv_at hl 2 rfl) ?_
    refine lv_imul hx hb dX12_sumOf_46 ?_
    exact W.iret (v := a1 * a2) hx hb hr (fun t ht hW => ⟨_, rfl, h, ht⟩) (fun q h => by cases h) dX12_sumOf_47
  · have h := h.2.2.2.2.1 h_in
    refine lv_tableIn (off := 47) (tgt := 48) hx hb dX12_sumOf_1 (by rw [h_in]; decide) (by rw [h_in]; decide) (by rw [h_in]; decide) (by decide) ?_
    refine lv_iload_n hx hb dX12_sumOf_48 rfl (lv_at hl 1 rfl) ?_
    refine lv_iload_n hx hb dX12_sumOf_49 rfl (lv_at hl 2 rfl) ?_
    refine lv_idiv hx hb dX12_sumOf_50 h.1 ?_
    have h := h.2
    exact W.iret (v := a1 / a2) hx hb hr (fun t ht hW => ⟨_, rfl, h, ht⟩) (fun q h => by cases h) dX12_sumOf_51
  · have h := h.2.2.2.2.2 h_in
    refine lv_tableIn (off := 51) (tgt := 52) hx hb dX12_sumOf_1 (by rw [h_in]; decide) (by rw [h_in]; decide) (by rw [h_in]; decide) (by decide) ?_
    refine lv_iload_n hx hb dX12_sumOf_52 rfl (lv_at hl 1 rfl) ?_
    refine lv_iload_n hx hb dX12_sumOf_53 rfl (lv_at hl 2 rfl) ?_
    refine lv_icmp_ge (tgt := 61) hx hb dX12_sumOf_54 (by decide) (fun c_2 => ?_) (fun c_2 => ?_)
    · have h := h.1 c_2
      refine lv_iconst (v := 0) hx hb dX12_sumOf_61 (by decide) ?_
      exact W.iret (v := 0) hx hb hr (fun t ht hW => ⟨_, rfl, h, ht⟩) (fun q h => by cases h) dX12_sumOf_62
    · have h := h.2 c_2
      refine lv_iconst (v := 1) hx hb dX12_sumOf_57 (by decide) ?_
      refine lv_goto (tgt := 62) hx hb dX12_sumOf_58 (by decide) ?_
      exact W.iret (v := 1) hx hb hr (fun t ht hW => ⟨_, rfl, h, ht⟩) (fun q h => by cases h) dX12_sumOf_62
def wp_X12_makeTwo (S : MST) (a1 : Int32) (a2 : Int32) (Post : MST → Prop) : Prop :=
  vp_in (a2 - 2) 9 ∧ (((((S 35 (a2 - 2 : Int32).toNatClampNeg) : Int32) = 0) → (wp_X12_layOne S (a2 - 2) (fun S3 => wp_X12_layOne S3 (a2 - 1) (fun S4 => wp_X12_part S4 (a1 - 1) (7 + (a2 - 2)) (7 + (a2 - 2)) (7 + (a2 - 1)) (fun S5 => vp_in (a2 - 1) 9 ∧ (∀ S6 : MST, S6 = ms S5 35 (upd (S5 35) (a2 - 1 : Int32).toNatClampNeg (vp_nar .boolean 0)) → (Post S6))))))) ∧ ((¬ (((S 35 (a2 - 2 : Int32).toNatClampNeg) : Int32) = 0)) → (vp_in (a2 - 1) 9 ∧ (((((S 35 (a2 - 1 : Int32).toNatClampNeg) : Int32) = 0) → (wp_X12_layOne S (a2 - 2) (fun S9 => wp_X12_layOne S9 (a2 - 1) (fun S10 => wp_X12_part S10 (a1 - 1) (7 + (a2 - 2)) (7 + (a2 - 2)) (7 + (a2 - 1)) (fun S11 => vp_in (a2 - 1) 9 ∧ (∀ S12 : MST, S12 = ms S11 35 (upd (S11 35) (a2 - 1 : Int32).toNatClampNeg (vp_nar .boolean 0)) → (Post S12))))))) ∧ ((¬ (((S 35 (a2 - 1 : Int32).toNatClampNeg) : Int32) = 0)) → (((¬ ((a1 : Int32) = 6)) → (vp_in (a2 - 2) 9 ∧ (vp_in (a2 - 1) 9 ∧ (wp_X12_sumOf a1 (S 36 (a2 - 2 : Int32).toNatClampNeg) (S 36 (a2 - 1 : Int32).toNatClampNeg) (fun r16 => vp_in (a2 - 2) 9 ∧ (∀ S17 : MST, S17 = ms S 36 (upd (S 36) (a2 - 2 : Int32).toNatClampNeg r16) → (vp_in (a2 - 1) 9 ∧ (∀ S18 : MST, S18 = ms S17 35 (upd (S17 35) (a2 - 1 : Int32).toNatClampNeg (vp_nar .boolean 0)) → (Post S18))))))))) ∧ (((a1 : Int32) = 6) → (vp_in (a2 - 1) 9 ∧ (((((S 36 (a2 - 1 : Int32).toNatClampNeg) : Int32) = 0) → (wp_X12_layOne S (a2 - 2) (fun S21 => wp_X12_layOne S21 (a2 - 1) (fun S22 => wp_X12_part S22 (a1 - 1) (7 + (a2 - 2)) (7 + (a2 - 2)) (7 + (a2 - 1)) (fun S23 => vp_in (a2 - 1) 9 ∧ (∀ S24 : MST, S24 = ms S23 35 (upd (S23 35) (a2 - 1 : Int32).toNatClampNeg (vp_nar .boolean 0)) → (Post S24))))))) ∧ ((¬ (((S 36 (a2 - 1 : Int32).toNatClampNeg) : Int32) = 0)) → (vp_in (a2 - 2) 9 ∧ (vp_in (a2 - 1) 9 ∧ (wp_X12_sumOf a1 (S 36 (a2 - 2 : Int32).toNatClampNeg) (S 36 (a2 - 1 : Int32).toNatClampNeg) (fun r27 => vp_in (a2 - 2) 9 ∧ (∀ S28 : MST, S28 = ms S 36 (upd (S 36) (a2 - 2 : Int32).toNatClampNeg r27) → (vp_in (a2 - 1) 9 ∧ (∀ S29 : MST, S29 = ms S28 35 (upd (S28 35) (a2 - 1 : Int32).toNatClampNeg (vp_nar .boolean 0)) → (Post S29))))))))))))))))))
def zw_zd_X12_makeTwo_w0 : List Cond := [.fieldLink RX12 105 "TemplateForgeModel" "placeKnown" "[Z", .code yX12_layOne cX12_layOne 2 none, .fieldLink RX12 108 "TemplateForgeModel" "placeIs" "[I", .code yX12_part cX12_part 6 none, .fieldLink RX12 181 "TemplateForgeModel" "code" "I", .fieldLink RX12 74 "TemplateForgeModel" "partMany" "[I", .fieldLink RX12 81 "TemplateForgeModel" "partOp" "[I", .fieldLink RX12 84 "TemplateForgeModel" "partD" "[I", .fieldLink RX12 87 "TemplateForgeModel" "partA" "[I", .fieldLink RX12 90 "TemplateForgeModel" "partB" "[I", .fieldLink RX12 93 "TemplateForgeModel" "partOf" "[I", .fieldLink RX12 184 "TemplateForgeModel" "owner" "I", .methodLink RX12 187 yX12_part, .instanceMethod yX12_part, .selects RX12 yX12_part yX12_part, .initialized RX12]
def zw_zd_X12_makeTwo_w1 : List Cond := [.methodLink RX12 191 yX12_layOne, .instanceMethod yX12_layOne, .selects RX12 yX12_layOne yX12_layOne, .code yX12_sumOf cX12_sumOf 3 (some .int), .methodLink RX12 195 yX12_sumOf, .static yX12_sumOf]
def zw_zd_X12_makeTwo : List Cond := .code yX12_makeTwo cX12_makeTwo 5 none :: ((zw_zd_X12_makeTwo_w0 ++ (zw_zd_X12_makeTwo_w1)) ++ wsX120)
set_option maxRecDepth 100000 in
theorem zg_zd_X12_makeTwo_zd_X12_layOne_191_a : GoodIn zw_zd_X12_makeTwo [.methodLink RX12 191 yX12_layOne, .instanceMethod yX12_layOne, .selects RX12 yX12_layOne yX12_layOne, .initialized RX12] := goodIn_r _ [17, 18, 19, 16] rfl (by decide +kernel)
set_option maxRecDepth 100000 in
theorem zg_zd_X12_makeTwo_zd_X12_layOne_191_c : GoodIn zw_zd_X12_makeTwo [.code yX12_layOne cX12_layOne 2 none] := goodIn_r _ [2] rfl (by decide +kernel)
set_option maxRecDepth 100000 in
theorem zg_zd_X12_makeTwo_zd_X12_layOne_191_0 : GoodIn zw_zd_X12_makeTwo zw_zd_X12_layOne_w0 := goodIn_r _ [1, 3, 4, 5, 6, 7, 8, 9, 10, 11, 12, 13, 14, 15, 16] rfl (by decide +kernel)
theorem zg_zd_X12_makeTwo_zd_X12_layOne_191 : GoodIn zw_zd_X12_makeTwo (wsV RX12 191 RX12 yX12_layOne zw_zd_X12_layOne) := goodIn_app zg_zd_X12_makeTwo_zd_X12_layOne_191_a (goodIn_ca (a := (zw_zd_X12_layOne_w0)) (show GoodIn zw_zd_X12_makeTwo (.code yX12_layOne cX12_layOne 2 none :: (zw_zd_X12_layOne_w0)) from goodIn_app zg_zd_X12_makeTwo_zd_X12_layOne_191_c (zg_zd_X12_makeTwo_zd_X12_layOne_191_0)) (fun w h => ⟨(fun _ h => List.mem_cons_of_mem _ (List.mem_append_right _ h)) w h, good_of_word (List.all_eq_true.mp zgw_X12 w h)⟩))
set_option maxRecDepth 100000 in
theorem zg_zd_X12_makeTwo_zd_X12_part_187_a : GoodIn zw_zd_X12_makeTwo [.methodLink RX12 187 yX12_part, .instanceMethod yX12_part, .selects RX12 yX12_part yX12_part, .initialized RX12] := goodIn_r _ [13, 14, 15, 16] rfl (by decide +kernel)
set_option maxRecDepth 100000 in
theorem zg_zd_X12_makeTwo_zd_X12_part_187_c : GoodIn zw_zd_X12_makeTwo [.code yX12_part cX12_part 6 none] := goodIn_r _ [4] rfl (by decide +kernel)
set_option maxRecDepth 100000 in
theorem zg_zd_X12_makeTwo_zd_X12_part_187_0 : GoodIn zw_zd_X12_makeTwo zw_zd_X12_part_w0 := goodIn_r _ [5, 6, 7, 8, 9, 10, 11, 12] rfl (by decide +kernel)
theorem zg_zd_X12_makeTwo_zd_X12_part_187 : GoodIn zw_zd_X12_makeTwo (wsV RX12 187 RX12 yX12_part zw_zd_X12_part) := goodIn_app zg_zd_X12_makeTwo_zd_X12_part_187_a (goodIn_ca (a := (zw_zd_X12_part_w0)) (show GoodIn zw_zd_X12_makeTwo (.code yX12_part cX12_part 6 none :: (zw_zd_X12_part_w0)) from goodIn_app zg_zd_X12_makeTwo_zd_X12_part_187_c (zg_zd_X12_makeTwo_zd_X12_part_187_0)) (fun w h => ⟨(fun _ h => List.mem_cons_of_mem _ (List.mem_append_right _ h)) w h, good_of_word (List.all_eq_true.mp zgw_X12 w h)⟩))
set_option maxRecDepth 100000 in
theorem zg_zd_X12_makeTwo_zd_X12_sumOf_195_a : GoodIn zw_zd_X12_makeTwo [.methodLink RX12 195 yX12_sumOf, .static yX12_sumOf, .initialized RX12] := goodIn_r _ [21, 22, 16] rfl (by decide +kernel)
set_option maxRecDepth 100000 in
theorem zg_zd_X12_makeTwo_zd_X12_sumOf_195_c : GoodIn zw_zd_X12_makeTwo [.code yX12_sumOf cX12_sumOf 3 (some .int)] := goodIn_r _ [20] rfl (by decide +kernel)
theorem zg_zd_X12_makeTwo_zd_X12_sumOf_195 : GoodIn zw_zd_X12_makeTwo (va_wsS RX12 195 yX12_sumOf zw_zd_X12_sumOf) := goodIn_app zg_zd_X12_makeTwo_zd_X12_sumOf_195_a (show GoodIn zw_zd_X12_makeTwo (.code yX12_sumOf cX12_sumOf 3 (some .int) :: (([] : List Cond))) from zg_zd_X12_makeTwo_zd_X12_sumOf_195_c)
set_option maxHeartbeats 16000000 in
set_option maxRecDepth 100000 in
theorem zd_X12_makeTwo (l : Launch) (D : va_G) (cI cZ cP cF : Nat) (h0 : Nat) (q : Nat → Nat) (S : MST) (a1 : Int32) (a2 : Int32) (sz : Nat) (Post : MST → Prop) (h : wp_X12_makeTwo S a1 a2 Post) : Met l yX12_makeTwo zw_zd_X12_makeTwo ({ frames := 2, cells := 0, slots := 0, locals := 46 }) (va_Pc [.ref h0, .int a1, .int a2] (fun U => U.heap.size = sz ∧ va_P D vwCl (mW cI cZ h0 q S) U.heap ∧ zE D cI cZ cP cF U ∧ va_D (fun _ => True) (mW cI cZ h0 q S))) (va_Qv (fun S' => Post S') (fun (S' : MST) t => va_P D vwCl (mW cI cZ h0 q S') t.heap ∧ va_D (va_A (mW cI cZ h0 q S) sz) (mW cI cZ h0 q S')) (va_A (mW cI cZ h0 q S) sz)) 0 0 (va_A (mW cI cZ h0 q S) sz) := by
  unfold wp_X12_makeTwo at h
  refine Met.ofW (cc := cX12_makeTwo) (maxL := 5) (ret := none) (by decide) rfl ?_
  intro p e s m args below meth c s₁ B hml hv
  obtain ⟨rfl, hsz, hP, hE, hD0⟩ := hv
  have hx := B.exec
  have hb := B.bytes
  have hr := B.returns
  have hts := atoms_spec (ws := zw_zd_X12_makeTwo) B.pre
  have hown : s.vm.findClass RX12 = some m.cls := findClass_of_methodNamed B.named
  have hlocks := B.notSynchronized
  have hK := hE.k
  subst hsz
  have hD := hD0.self (sz := s.heap.size)
  generalize hAe : va_A (mW cI cZ h0 q S) s.heap.size = A at hD ⊢
  have hA : ∀ q : Nat, s.heap.size ≤ q → A q := fun q h => by rw [← hAe]; exact Or.inr h
  have hl := lv_entry ([.ref h0, .int a1, .int a2]) (n := 5) (Nat.le_of_ble_eq_true rfl)
  rw [lg_entry_eq]
  generalize (lg_sl ([.ref h0, .int a1, .int a2]) ++ List.replicate (5 - (lg_sl ([.ref h0, .int a1, .int a2])).length) Slot.unset).toArray = ls at hl ⊢
  have hl : lv_has ls 5 [(0, .ref h0), (1, .int a1), (2, .int a2)] := hl
  have key : ∀ (H : Heap) (locs : List Loc), va_P D vwCl (mW cI cZ h0 q S) H → va_S A s.heap H locs → W p l e (headSpec zw_zd_X12_makeTwo ({ frames := 2, cells := 0, slots := 0, locals := 46 })).room s m ([.ref h0, .int a1, .int a2] : List Value).toArray below meth c H locs 0 0 (MQ below (va_Qv (fun S' => Post S') (fun (S' : MST) t => va_P D vwCl (mW cI cZ h0 q S') t.heap ∧ va_D A (mW cI cZ h0 q S')) A) ([.ref h0, .int a1, .int a2] : List Value).toArray s 0 0 A) (F0 m 0 ls []) := by
    intro H locs hP hS
    refine lv_iload_n hx hb dX12_makeTwo_0 rfl (lv_at hl 2 rfl) ?_
    refine lv_iconst (v := 2) hx hb dX12_makeTwo_1 (by decide) ?_
    refine lv_isub hx hb dX12_makeTwo_2 ?_
    refine lv_istore_n (lv' := [(3, .int (a2 - 2)), (0, .ref h0), (1, .int a1), (2, .int a2)]) hx hb dX12_makeTwo_3 rfl hl (by decide) rfl (fun ls hl => ?_)
    refine lv_iload_n hx hb dX12_makeTwo_4 rfl (lv_at hl 3 rfl) ?_
    refine lv_iconst (v := 1) hx hb dX12_makeTwo_5 (by decide) ?_
    refine lv_isub hx hb dX12_makeTwo_6 ?_
    refine lv_istore (lv' := [(4, .int (a2 - 1)), (3, .int (a2 - 2)), (0, .ref h0), (1, .int a1), (2, .int a2)]) hx hb dX12_makeTwo_7 hl (by decide) rfl (fun ls hl => ?_)
    refine lv_aload_n hx hb dX12_makeTwo_9 rfl (lv_at hl 2 rfl) ?_
    refine va_get (D := D) (ci := 12) (v := .ref (q 35)) (C := RX12) (T := TX12) (N := 52) hx hb hts (fun _ h => List.mem_cons_of_mem _ (List.mem_append_right _ h)) hown hK hP 0 rfl rfl 35 (by decide) (hts (.fieldLink RX12 105 "TemplateForgeModel" "placeKnown" "[Z") (List.mem_of_getElem? (i := 1) rfl)) (fun _ h9 => h9) rfl dX12_makeTwo_10 ?_
    refine lv_iload_n hx hb dX12_makeTwo_13 rfl (lv_at hl 1 rfl) ?_
    have hin_1 := h.1
    have h := h.2
    refine va_zald hx hb hK hP 32 1 rfl rfl hin_1 dX12_makeTwo_14 ?_
    refine lv_if_eq (tgt := 70) hx hb dX12_makeTwo_15 (by decide) (fun c_2 => ?_) (fun c_2 => ?_)
    · have h := h.1 c_2
      refine lv_aload_n hx hb dX12_makeTwo_70 rfl (lv_at hl 2 rfl) ?_
      refine lv_iload_n hx hb dX12_makeTwo_71 rfl (lv_at hl 1 rfl) ?_
      have hFc := zm_free hD hS hA
      refine va_callv (va_runV (As := [.int (a2 - 2)]) (rest := []) ⟨hx, hb, hml, hown, hts⟩ (zd_X12_layOne l D cI cZ cP cF h0 q S (a2 - 2) H.size _ h) (cwV 1 hts zg_zd_X12_makeTwo_zd_X12_layOne_191 rfl rfl rfl (by decide +kernel) ⟨Nat.le_of_ble_eq_true rfl, Nat.le_of_ble_eq_true rfl⟩) ⟨zBW, va_recv hK hP (ci := 12) (q0 := 0) rfl rfl, fun U hU hW => ⟨rfl, by rw [hU], by rw [hU]; exact hP, hE.warm hW, hD.weaken (fun _ _ _ _ => trivial)⟩⟩ rfl rfl hl.1 rfl (lv_room (Nat.le_of_ble_eq_true rfl)) dX12_makeTwo_72 ⟨Nat.le_of_ble_eq_true rfl, Nat.le_of_ble_eq_true rfl⟩) hS (fun q _ h => hFc q h) hFc (fun S3 t H locs ht hvm h hB hz1 hk1 hS => ?_)
      obtain ⟨hP, hD1⟩ := hB
      rw [ht] at hP
      have hD := hD1.weaken (fun k q _ hq => hFc q.1 hq)
      refine lv_aload_n hx hb dX12_makeTwo_75 rfl (lv_at hl 2 rfl) ?_
      refine lv_iload hx hb dX12_makeTwo_76 (lv_at hl 0 rfl) ?_
      have hFc := zm_free hD hS hA
      refine va_callv (va_runV (As := [.int (a2 - 1)]) (rest := []) ⟨hx, hb, hml, hown, hts⟩ (zd_X12_layOne l D cI cZ cP cF h0 q S3 (a2 - 1) H.size _ h) (cwV 1 hts zg_zd_X12_makeTwo_zd_X12_layOne_191 rfl rfl rfl (by decide +kernel) ⟨Nat.le_of_ble_eq_true rfl, Nat.le_of_ble_eq_true rfl⟩) ⟨zBW, va_recv hK hP (ci := 12) (q0 := 0) rfl rfl, fun U hU hW => ⟨rfl, by rw [hU], by rw [hU]; exact hP, hE.warm hW, hD.weaken (fun _ _ _ _ => trivial)⟩⟩ rfl rfl hl.1 rfl (lv_room (Nat.le_of_ble_eq_true rfl)) dX12_makeTwo_78 ⟨Nat.le_of_ble_eq_true rfl, Nat.le_of_ble_eq_true rfl⟩) hS (fun q _ h => hFc q h) hFc (fun S4 t H locs ht hvm h hB hz1 hk1 hS => ?_)
      obtain ⟨hP, hD1⟩ := hB
      rw [ht] at hP
      have hD := hD1.weaken (fun k q _ hq => hFc q.1 hq)
      refine lv_aload_n hx hb dX12_makeTwo_81 rfl (lv_at hl 2 rfl) ?_
      refine lv_iload_n hx hb dX12_makeTwo_82 rfl (lv_at hl 3 rfl) ?_
      refine lv_iconst (v := 1) hx hb dX12_makeTwo_83 (by decide) ?_
      refine lv_isub hx hb dX12_makeTwo_84 ?_
      refine lv_bipush (v := 7) hx hb dX12_makeTwo_85 (by decide) ?_
      refine lv_iload_n hx hb dX12_makeTwo_87 rfl (lv_at hl 1 rfl) ?_
      refine lv_iadd hx hb dX12_makeTwo_88 ?_
      refine lv_bipush (v := 7) hx hb dX12_makeTwo_89 (by decide) ?_
      refine lv_iload_n hx hb dX12_makeTwo_91 rfl (lv_at hl 1 rfl) ?_
      refine lv_iadd hx hb dX12_makeTwo_92 ?_
      refine lv_bipush (v := 7) hx hb dX12_makeTwo_93 (by decide) ?_
      refine lv_iload hx hb dX12_makeTwo_95 (lv_at hl 0 rfl) ?_
      refine lv_iadd hx hb dX12_makeTwo_97 ?_
      have hFc := zm_free hD hS hA
      refine va_callv (va_runV (As := [.int (a1 - 1), .int (7 + (a2 - 2)), .int (7 + (a2 - 2)), .int (7 + (a2 - 1))]) (rest := []) ⟨hx, hb, hml, hown, hts⟩ (zd_X12_part l D cI cZ cP cF h0 q S4 (a1 - 1) (7 + (a2 - 2)) (7 + (a2 - 2)) (7 + (a2 - 1)) H.size _ h) (cwV 4 hts zg_zd_X12_makeTwo_zd_X12_part_187 rfl rfl rfl (by decide +kernel) ⟨Nat.le_of_ble_eq_true rfl, Nat.le_of_ble_eq_true rfl⟩) ⟨zBW, va_recv hK hP (ci := 12) (q0 := 0) rfl rfl, fun U hU hW => ⟨rfl, by rw [hU], by rw [hU]; exact hP, hE.warm hW, hD.weaken (fun _ _ _ _ => trivial)⟩⟩ rfl rfl hl.1 rfl (lv_room (Nat.le_of_ble_eq_true rfl)) dX12_makeTwo_98 ⟨Nat.le_of_ble_eq_true rfl, Nat.le_of_ble_eq_true rfl⟩) hS (fun q _ h => hFc q h) hFc (fun S5 t H locs ht hvm h hB hz1 hk1 hS => ?_)
      obtain ⟨hP, hD1⟩ := hB
      rw [ht] at hP
      have hD := hD1.weaken (fun k q _ hq => hFc q.1 hq)
      refine lv_aload_n hx hb dX12_makeTwo_101 rfl (lv_at hl 2 rfl) ?_
      refine va_get (D := D) (ci := 12) (v := .ref (q 35)) (C := RX12) (T := TX12) (N := 52) hx hb hts (fun _ h => List.mem_cons_of_mem _ (List.mem_append_right _ h)) hown hK hP 0 rfl rfl 35 (by decide) (hts (.fieldLink RX12 105 "TemplateForgeModel" "placeKnown" "[Z") (List.mem_of_getElem? (i := 1) rfl)) (fun _ h9 => h9) rfl dX12_makeTwo_102 ?_
      refine lv_iload hx hb dX12_makeTwo_105 (lv_at hl 0 rfl) ?_
      refine lv_iconst (v := 0) hx hb dX12_makeTwo_107 (by decide) ?_
      have hin_6 := h.1
      have h := h.2
      refine va_zast hx hb hK hP hD hS 32 1 rfl rfl hin_6 dX12_makeTwo_108 (fun H locs hP hD hS => ?_)
      obtain ⟨S6, eS6⟩ : ∃ z, z = ms S5 35 (upd (S5 35) (a2 - 1 : Int32).toNatClampNeg (vp_nar .boolean 0)) := ⟨_, rfl⟩
      have hP : va_P D vwCl (mW cI cZ h0 q S6) H := by rw [eS6]; exact hP
      have hD : va_D A (mW cI cZ h0 q S6) := by rw [eS6]; exact hD
      have h := h S6 eS6
      exact W.vret hx hb hr (fun t ht hW => ⟨⟨S6, rfl, h, by rw [ht]; exact hP, hD⟩, hS.F ht⟩) hS.2.2 dX12_makeTwo_109
    · have h := h.2 c_2
      refine lv_aload_n hx hb dX12_makeTwo_18 rfl (lv_at hl 2 rfl) ?_
      refine va_get (D := D) (ci := 12) (v := .ref (q 35)) (C := RX12) (T := TX12) (N := 52) hx hb hts (fun _ h => List.mem_cons_of_mem _ (List.mem_append_right _ h)) hown hK hP 0 rfl rfl 35 (by decide) (hts (.fieldLink RX12 105 "TemplateForgeModel" "placeKnown" "[Z") (List.mem_of_getElem? (i := 1) rfl)) (fun _ h9 => h9) rfl dX12_makeTwo_19 ?_
      refine lv_iload hx hb dX12_makeTwo_22 (lv_at hl 0 rfl) ?_
      have hin_7 := h.1
      have h := h.2
      refine va_zald hx hb hK hP 32 1 rfl rfl hin_7 dX12_makeTwo_24 ?_
      refine lv_if_eq (tgt := 70) hx hb dX12_makeTwo_25 (by decide) (fun c_8 => ?_) (fun c_8 => ?_)
      · have h := h.1 c_8
        refine lv_aload_n hx hb dX12_makeTwo_70 rfl (lv_at hl 2 rfl) ?_
        refine lv_iload_n hx hb dX12_makeTwo_71 rfl (lv_at hl 1 rfl) ?_
        have hFc := zm_free hD hS hA
        refine va_callv (va_runV (As := [.int (a2 - 2)]) (rest := []) ⟨hx, hb, hml, hown, hts⟩ (zd_X12_layOne l D cI cZ cP cF h0 q S (a2 - 2) H.size _ h) (cwV 1 hts zg_zd_X12_makeTwo_zd_X12_layOne_191 rfl rfl rfl (by decide +kernel) ⟨Nat.le_of_ble_eq_true rfl, Nat.le_of_ble_eq_true rfl⟩) ⟨zBW, va_recv hK hP (ci := 12) (q0 := 0) rfl rfl, fun U hU hW => ⟨rfl, by rw [hU], by rw [hU]; exact hP, hE.warm hW, hD.weaken (fun _ _ _ _ => trivial)⟩⟩ rfl rfl hl.1 rfl (lv_room (Nat.le_of_ble_eq_true rfl)) dX12_makeTwo_72 ⟨Nat.le_of_ble_eq_true rfl, Nat.le_of_ble_eq_true rfl⟩) hS (fun q _ h => hFc q h) hFc (fun S9 t H locs ht hvm h hB hz1 hk1 hS => ?_)
        obtain ⟨hP, hD1⟩ := hB
        rw [ht] at hP
        have hD := hD1.weaken (fun k q _ hq => hFc q.1 hq)
        refine lv_aload_n hx hb dX12_makeTwo_75 rfl (lv_at hl 2 rfl) ?_
        refine lv_iload hx hb dX12_makeTwo_76 (lv_at hl 0 rfl) ?_
        have hFc := zm_free hD hS hA
        refine va_callv (va_runV (As := [.int (a2 - 1)]) (rest := []) ⟨hx, hb, hml, hown, hts⟩ (zd_X12_layOne l D cI cZ cP cF h0 q S9 (a2 - 1) H.size _ h) (cwV 1 hts zg_zd_X12_makeTwo_zd_X12_layOne_191 rfl rfl rfl (by decide +kernel) ⟨Nat.le_of_ble_eq_true rfl, Nat.le_of_ble_eq_true rfl⟩) ⟨zBW, va_recv hK hP (ci := 12) (q0 := 0) rfl rfl, fun U hU hW => ⟨rfl, by rw [hU], by rw [hU]; exact hP, hE.warm hW, hD.weaken (fun _ _ _ _ => trivial)⟩⟩ rfl rfl hl.1 rfl (lv_room (Nat.le_of_ble_eq_true rfl)) dX12_makeTwo_78 ⟨Nat.le_of_ble_eq_true rfl, Nat.le_of_ble_eq_true rfl⟩) hS (fun q _ h => hFc q h) hFc (fun S10 t H locs ht hvm h hB hz1 hk1 hS => ?_)
        obtain ⟨hP, hD1⟩ := hB
        rw [ht] at hP
        have hD := hD1.weaken (fun k q _ hq => hFc q.1 hq)
        refine lv_aload_n hx hb dX12_makeTwo_81 rfl (lv_at hl 2 rfl) ?_
        refine lv_iload_n hx hb dX12_makeTwo_82 rfl (lv_at hl 3 rfl) ?_
        refine lv_iconst (v := 1) hx hb dX12_makeTwo_83 (by decide) ?_
        refine lv_isub hx hb dX12_makeTwo_84 ?_
        refine lv_bipush (v := 7) hx hb dX12_makeTwo_85 (by decide) ?_
        refine lv_iload_n hx hb dX12_makeTwo_87 rfl (lv_at hl 1 rfl) ?_
        refine lv_iadd hx hb dX12_makeTwo_88 ?_
        refine lv_bipush (v := 7) hx hb dX12_makeTwo_89 (by decide) ?_
        refine lv_iload_n hx hb dX12_makeTwo_91 rfl (lv_at hl 1 rfl) ?_
        refine lv_iadd hx hb dX12_makeTwo_92 ?_
        refine lv_bipush (v := 7) hx hb dX12_makeTwo_93 (by decide) ?_
        refine lv_iload hx hb dX12_makeTwo_95 (lv_at hl 0 rfl) ?_
        refine lv_iadd hx hb dX12_makeTwo_97 ?_
        have hFc := zm_free hD hS hA
        refine va_callv (va_runV (As := [.int (a1 - 1), .int (7 + (a2 - 2)), .int (7 + (a2 - 2)), .int (7 + (a2 - 1))]) (rest := []) ⟨hx, hb, hml, hown, hts⟩ (zd_X12_part l D cI cZ cP cF h0 q S10 (a1 - 1) (7 + (a2 - 2)) (7 + (a2 - 2)) (7 + (a2 - 1)) H.size _ h) (cwV 4 hts zg_zd_X12_makeTwo_zd_X12_part_187 rfl rfl rfl (by decide +kernel) ⟨Nat.le_of_ble_eq_true rfl, Nat.le_of_ble_eq_true rfl⟩) ⟨zBW, va_recv hK hP (ci := 12) (q0 := 0) rfl rfl, fun U hU hW => ⟨rfl, by rw [hU], by rw [hU]; exact hP, hE.warm hW, hD.weaken (fun _ _ _ _ => trivial)⟩⟩ rfl rfl hl.1 rfl (lv_room (Nat.le_of_ble_eq_true rfl)) dX12_makeTwo_98 ⟨Nat.le_of_ble_eq_true rfl, Nat.le_of_ble_eq_true rfl⟩) hS (fun q _ h => hFc q h) hFc (fun S11 t H locs ht hvm h hB hz1 hk1 hS => ?_)
        obtain ⟨hP, hD1⟩ := hB
        rw [ht] at hP
        have hD := hD1.weaken (fun k q _ hq => hFc q.1 hq)
        refine lv_aload_n hx hb dX12_makeTwo_101 rfl (lv_at hl 2 rfl) ?_
        refine va_get (D := D) (ci := 12) (v := .ref (q 35)) (C := RX12) (T := TX12) (N := 52) hx hb hts (fun _ h => List.mem_cons_of_mem _ (List.mem_append_right _ h)) hown hK hP 0 rfl rfl 35 (by decide) (hts (.fieldLink RX12 105 "TemplateForgeModel" "placeKnown" "[Z") (List.mem_of_getElem? (i := 1) rfl)) (fun _ h9 => h9) rfl dX12_makeTwo_102 ?_
        refine lv_iload hx hb dX12_makeTwo_105 (lv_at hl 0 rfl) ?_
        refine lv_iconst (v := 0) hx hb dX12_makeTwo_107 (by decide) ?_
        have hin_12 := h.1
        have h := h.2
        refine va_zast hx hb hK hP hD hS 32 1 rfl rfl hin_12 dX12_makeTwo_108 (fun H locs hP hD hS => ?_)
        obtain ⟨S12, eS12⟩ : ∃ z, z = ms S11 35 (upd (S11 35) (a2 - 1 : Int32).toNatClampNeg (vp_nar .boolean 0)) := ⟨_, rfl⟩
        have hP : va_P D vwCl (mW cI cZ h0 q S12) H := by rw [eS12]; exact hP
        have hD : va_D A (mW cI cZ h0 q S12) := by rw [eS12]; exact hD
        have h := h S12 eS12
        exact W.vret hx hb hr (fun t ht hW => ⟨⟨S12, rfl, h, by rw [ht]; exact hP, hD⟩, hS.F ht⟩) hS.2.2 dX12_makeTwo_109
      · have h := h.2 c_8
        refine lv_iload_n hx hb dX12_makeTwo_28 rfl (lv_at hl 3 rfl) ?_
        refine lv_bipush (v := 6) hx hb dX12_makeTwo_29 (by decide) ?_
        refine lv_icmp_ne (tgt := 44) hx hb dX12_makeTwo_31 (by decide) (fun c_13 => ?_) (fun c_13 => ?_)
        · have h := h.1 c_13
          refine lv_aload_n hx hb dX12_makeTwo_44 rfl (lv_at hl 2 rfl) ?_
          refine va_get (D := D) (ci := 12) (v := .ref (q 36)) (C := RX12) (T := TX12) (N := 52) hx hb hts (fun _ h => List.mem_cons_of_mem _ (List.mem_append_right _ h)) hown hK hP 0 rfl rfl 36 (by decide) (hts (.fieldLink RX12 108 "TemplateForgeModel" "placeIs" "[I") (List.mem_of_getElem? (i := 3) rfl)) (fun _ h9 => h9) rfl dX12_makeTwo_45 ?_
          refine lv_iload_n hx hb dX12_makeTwo_48 rfl (lv_at hl 1 rfl) ?_
          refine lv_iload_n hx hb dX12_makeTwo_49 rfl (lv_at hl 3 rfl) ?_
          refine lv_aload_n hx hb dX12_makeTwo_50 rfl (lv_at hl 2 rfl) ?_
          refine va_get (D := D) (ci := 12) (v := .ref (q 36)) (C := RX12) (T := TX12) (N := 52) hx hb hts (fun _ h => List.mem_cons_of_mem _ (List.mem_append_right _ h)) hown hK hP 0 rfl rfl 36 (by decide) (hts (.fieldLink RX12 108 "TemplateForgeModel" "placeIs" "[I") (List.mem_of_getElem? (i := 3) rfl)) (fun _ h9 => h9) rfl dX12_makeTwo_51 ?_
          refine lv_iload_n hx hb dX12_makeTwo_54 rfl (lv_at hl 1 rfl) ?_
          have hin_14 := h.1
          have h := h.2
          refine va_iald hx hb hK hP 33 0 rfl rfl hin_14 dX12_makeTwo_55 ?_
          refine lv_aload_n hx hb dX12_makeTwo_56 rfl (lv_at hl 2 rfl) ?_
          refine va_get (D := D) (ci := 12) (v := .ref (q 36)) (C := RX12) (T := TX12) (N := 52) hx hb hts (fun _ h => List.mem_cons_of_mem _ (List.mem_append_right _ h)) hown hK hP 0 rfl rfl 36 (by decide) (hts (.fieldLink RX12 108 "TemplateForgeModel" "placeIs" "[I") (List.mem_of_getElem? (i := 3) rfl)) (fun _ h9 => h9) rfl dX12_makeTwo_57 ?_
          refine lv_iload hx hb dX12_makeTwo_60 (lv_at hl 0 rfl) ?_
          have hin_15 := h.1
          have h := h.2
          refine va_iald hx hb hK hP 33 0 rfl rfl hin_15 dX12_makeTwo_62 ?_
          have hP0 : va_P D vwCl [] H := fun k q h => by simp at h
          refine vp_callSi (va_Run.run (va_runS (As := [.int a1, .int (S 36 (a2 - 2 : Int32).toNatClampNeg), .int (S 36 (a2 - 1 : Int32).toNatClampNeg)]) (rest := [.int (a2 - 2), .ref (q 36)]) ⟨hx, hb, hml, hown, hts⟩ (zd_X12_sumOf l D cI cZ cP cF a1 (S 36 (a2 - 2 : Int32).toNatClampNeg) (S 36 (a2 - 1 : Int32).toNatClampNeg)  _ h) (va_cwS 3 hts zg_zd_X12_makeTwo_zd_X12_sumOf_195 rfl rfl rfl (by decide +kernel) ⟨Nat.le_of_ble_eq_true rfl, Nat.le_of_ble_eq_true rfl⟩) ⟨zBR, fun U hU hW => ⟨rfl, by rw [hU]; exact hP0, hE.warm hW⟩⟩ rfl rfl hl.1 rfl (lv_room (Nat.le_of_ble_eq_true rfl)) dX12_makeTwo_63 ⟨Nat.le_of_ble_eq_true rfl, Nat.le_of_ble_eq_true rfl⟩)) (fun r16 h => ?_)
          have hin_17 := h.1
          have h := h.2
          refine va_iast hx hb hK hP hD hS 33 0 rfl rfl hin_17 dX12_makeTwo_66 (fun H locs hP hD hS => ?_)
          obtain ⟨S17, eS17⟩ : ∃ z, z = ms S 36 (upd (S 36) (a2 - 2 : Int32).toNatClampNeg r16) := ⟨_, rfl⟩
          have hP : va_P D vwCl (mW cI cZ h0 q S17) H := by rw [eS17]; exact hP
          have hD : va_D A (mW cI cZ h0 q S17) := by rw [eS17]; exact hD
          have h := h S17 eS17
          refine lv_goto (tgt := 101) hx hb dX12_makeTwo_67 (by decide) ?_
          refine lv_aload_n hx hb dX12_makeTwo_101 rfl (lv_at hl 2 rfl) ?_
          refine va_get (D := D) (ci := 12) (v := .ref (q 35)) (C := RX12) (T := TX12) (N := 52) hx hb hts (fun _ h => List.mem_cons_of_mem _ (List.mem_append_right _ h)) hown hK hP 0 rfl rfl 35 (by decide) (hts (.fieldLink RX12 105 "TemplateForgeModel" "placeKnown" "[Z") (List.mem_of_getElem? (i := 1) rfl)) (fun _ h9 => h9) rfl dX12_makeTwo_102 ?_
          refine lv_iload hx hb dX12_makeTwo_105 (lv_at hl 0 rfl) ?_
          refine lv_iconst (v := 0) hx hb dX12_makeTwo_107 (by decide) ?_
          have hin_18 := h.1
          have h := h.2
          refine va_zast hx hb hK hP hD hS 32 1 rfl rfl hin_18 dX12_makeTwo_108 (fun H locs hP hD hS => ?_)
          obtain ⟨S18, eS18⟩ : ∃ z, z = ms S17 35 (upd (S17 35) (a2 - 1 : Int32).toNatClampNeg (vp_nar .boolean 0)) := ⟨_, rfl⟩
          have hP : va_P D vwCl (mW cI cZ h0 q S18) H := by rw [eS18]; exact hP
          have hD : va_D A (mW cI cZ h0 q S18) := by rw [eS18]; exact hD
          have h := h S18 eS18
          exact W.vret hx hb hr (fun t ht hW => ⟨⟨S18, rfl, h, by rw [ht]; exact hP, hD⟩, hS.F ht⟩) hS.2.2 dX12_makeTwo_109
        · have h := h.2 c_13
          refine lv_aload_n hx hb dX12_makeTwo_34 rfl (lv_at hl 2 rfl) ?_
          refine va_get (D := D) (ci := 12) (v := .ref (q 36)) (C := RX12) (T := TX12) (N := 52) hx hb hts (fun _ h => List.mem_cons_of_mem _ (List.mem_append_right _ h)) hown hK hP 0 rfl rfl 36 (by decide) (hts (.fieldLink RX12 108 "TemplateForgeModel" "placeIs" "[I") (List.mem_of_getElem? (i := 3) rfl)) (fun _ h9 => h9) rfl dX12_makeTwo_35 ?_
          refine lv_iload hx hb dX12_makeTwo_38 (lv_at hl 0 rfl) ?_
          have hin_19 := h.1
          have h := h.2
          refine va_iald hx hb hK hP 33 0 rfl rfl hin_19 dX12_makeTwo_40 ?_
          refine lv_if_eq (tgt := 70) hx hb dX12_makeTwo_41 (by decide) (fun c_20 => ?_) (fun c_20 => ?_)
          · have h := h.1 c_20
            refine lv_aload_n hx hb dX12_makeTwo_70 rfl (lv_at hl 2 rfl) ?_
            refine lv_iload_n hx hb dX12_makeTwo_71 rfl (lv_at hl 1 rfl) ?_
            have hFc := zm_free hD hS hA
            refine va_callv (va_runV (As := [.int (a2 - 2)]) (rest := []) ⟨hx, hb, hml, hown, hts⟩ (zd_X12_layOne l D cI cZ cP cF h0 q S (a2 - 2) H.size _ h) (cwV 1 hts zg_zd_X12_makeTwo_zd_X12_layOne_191 rfl rfl rfl (by decide +kernel) ⟨Nat.le_of_ble_eq_true rfl, Nat.le_of_ble_eq_true rfl⟩) ⟨zBW, va_recv hK hP (ci := 12) (q0 := 0) rfl rfl, fun U hU hW => ⟨rfl, by rw [hU], by rw [hU]; exact hP, hE.warm hW, hD.weaken (fun _ _ _ _ => trivial)⟩⟩ rfl rfl hl.1 rfl (lv_room (Nat.le_of_ble_eq_true rfl)) dX12_makeTwo_72 ⟨Nat.le_of_ble_eq_true rfl, Nat.le_of_ble_eq_true rfl⟩) hS (fun q _ h => hFc q h) hFc (fun S21 t H locs ht hvm h hB hz1 hk1 hS => ?_)
            obtain ⟨hP, hD1⟩ := hB
            rw [ht] at hP
            have hD := hD1.weaken (fun k q _ hq => hFc q.1 hq)
            refine lv_aload_n hx hb dX12_makeTwo_75 rfl (lv_at hl 2 rfl) ?_
            refine lv_iload hx hb dX12_makeTwo_76 (lv_at hl 0 rfl) ?_
            have hFc := zm_free hD hS hA
            refine va_callv (va_runV (As := [.int (a2 - 1)]) (rest := []) ⟨hx, hb, hml, hown, hts⟩ (zd_X12_layOne l D cI cZ cP cF h0 q S21 (a2 - 1) H.size _ h) (cwV 1 hts zg_zd_X12_makeTwo_zd_X12_layOne_191 rfl rfl rfl (by decide +kernel) ⟨Nat.le_of_ble_eq_true rfl, Nat.le_of_ble_eq_true rfl⟩) ⟨zBW, va_recv hK hP (ci := 12) (q0 := 0) rfl rfl, fun U hU hW => ⟨rfl, by rw [hU], by rw [hU]; exact hP, hE.warm hW, hD.weaken (fun _ _ _ _ => trivial)⟩⟩ rfl rfl hl.1 rfl (lv_room (Nat.le_of_ble_eq_true rfl)) dX12_makeTwo_78 ⟨Nat.le_of_ble_eq_true rfl, Nat.le_of_ble_eq_true rfl⟩) hS (fun q _ h => hFc q h) hFc (fun S22 t H locs ht hvm h hB hz1 hk1 hS => ?_)
            obtain ⟨hP, hD1⟩ := hB
            rw [ht] at hP
            have hD := hD1.weaken (fun k q _ hq => hFc q.1 hq)
            refine lv_aload_n hx hb dX12_makeTwo_81 rfl (lv_at hl 2 rfl) ?_
            refine lv_iload_n hx hb dX12_makeTwo_82 rfl (lv_at hl 3 rfl) ?_
            refine lv_iconst (v := 1) hx hb dX12_makeTwo_83 (by decide) ?_
            refine lv_isub hx hb dX12_makeTwo_84 ?_
            refine lv_bipush (v := 7) hx hb dX12_makeTwo_85 (by decide) ?_
            refine lv_iload_n hx hb dX12_makeTwo_87 rfl (lv_at hl 1 rfl) ?_
            refine lv_iadd hx hb dX12_makeTwo_88 ?_
            refine lv_bipush (v := 7) hx hb dX12_makeTwo_89 (by decide) ?_
            refine lv_iload_n hx hb dX12_makeTwo_91 rfl (lv_at hl 1 rfl) ?_
            refine lv_iadd hx hb dX12_makeTwo_92 ?_
            refine lv_bipush (v := 7) hx hb dX12_makeTwo_93 (by decide) ?_
            refine lv_iload hx hb dX12_makeTwo_95 (lv_at hl 0 rfl) ?_
            refine lv_iadd hx hb dX12_makeTwo_97 ?_
            have hFc := zm_free hD hS hA
            refine va_callv (va_runV (As := [.int (a1 - 1), .int (7 + (a2 - 2)), .int (7 + (a2 - 2)), .int (7 + (a2 - 1))]) (rest := []) ⟨hx, hb, hml, hown, hts⟩ (zd_X12_part l D cI cZ cP cF h0 q S22 (a1 - 1) (7 + (a2 - 2)) (7 + (a2 - 2)) (7 + (a2 - 1)) H.size _ h) (cwV 4 hts zg_zd_X12_makeTwo_zd_X12_part_187 rfl rfl rfl (by decide +kernel) ⟨Nat.le_of_ble_eq_true rfl, Nat.le_of_ble_eq_true rfl⟩) ⟨zBW, va_recv hK hP (ci := 12) (q0 := 0) rfl rfl, fun U hU hW => ⟨rfl, by rw [hU], by rw [hU]; exact hP, hE.warm hW, hD.weaken (fun _ _ _ _ => trivial)⟩⟩ rfl rfl hl.1 rfl (lv_room (Nat.le_of_ble_eq_true rfl)) dX12_makeTwo_98 ⟨Nat.le_of_ble_eq_true rfl, Nat.le_of_ble_eq_true rfl⟩) hS (fun q _ h => hFc q h) hFc (fun S23 t H locs ht hvm h hB hz1 hk1 hS => ?_)
            obtain ⟨hP, hD1⟩ := hB
            rw [ht] at hP
            have hD := hD1.weaken (fun k q _ hq => hFc q.1 hq)
            refine lv_aload_n hx hb dX12_makeTwo_101 rfl (lv_at hl 2 rfl) ?_
            refine va_get (D := D) (ci := 12) (v := .ref (q 35)) (C := RX12) (T := TX12) (N := 52) hx hb hts (fun _ h => List.mem_cons_of_mem _ (List.mem_append_right _ h)) hown hK hP 0 rfl rfl 35 (by decide) (hts (.fieldLink RX12 105 "TemplateForgeModel" "placeKnown" "[Z") (List.mem_of_getElem? (i := 1) rfl)) (fun _ h9 => h9) rfl dX12_makeTwo_102 ?_
            refine lv_iload hx hb dX12_makeTwo_105 (lv_at hl 0 rfl) ?_
            refine lv_iconst (v := 0) hx hb dX12_makeTwo_107 (by decide) ?_
            have hin_24 := h.1
            have h := h.2
            refine va_zast hx hb hK hP hD hS 32 1 rfl rfl hin_24 dX12_makeTwo_108 (fun H locs hP hD hS => ?_)
            obtain ⟨S24, eS24⟩ : ∃ z, z = ms S23 35 (upd (S23 35) (a2 - 1 : Int32).toNatClampNeg (vp_nar .boolean 0)) := ⟨_, rfl⟩
            have hP : va_P D vwCl (mW cI cZ h0 q S24) H := by rw [eS24]; exact hP
            have hD : va_D A (mW cI cZ h0 q S24) := by rw [eS24]; exact hD
            have h := h S24 eS24
            exact W.vret hx hb hr (fun t ht hW => ⟨⟨S24, rfl, h, by rw [ht]; exact hP, hD⟩, hS.F ht⟩) hS.2.2 dX12_makeTwo_109
          · have h := h.2 c_20
            refine lv_aload_n hx hb dX12_makeTwo_44 rfl (lv_at hl 2 rfl) ?_
            refine va_get (D := D) (ci := 12) (v := .ref (q 36)) (C := RX12) (T := TX12) (N := 52) hx hb hts (fun _ h => List.mem_cons_of_mem _ (List.mem_append_right _ h)) hown hK hP 0 rfl rfl 36 (by decide) (hts (.fieldLink RX12 108 "TemplateForgeModel" "placeIs" "[I") (List.mem_of_getElem? (i := 3) rfl)) (fun _ h9 => h9) rfl dX12_makeTwo_45 ?_
            refine lv_iload_n hx hb dX12_makeTwo_48 rfl (lv_at hl 1 rfl) ?_
            refine lv_iload_n hx hb dX12_makeTwo_49 rfl (lv_at hl 3 rfl) ?_
            refine lv_aload_n hx hb dX12_makeTwo_50 rfl (lv_at hl 2 rfl) ?_
            refine va_get (D := D) (ci := 12) (v := .ref (q 36)) (C := RX12) (T := TX12) (N := 52) hx hb hts (fun _ h => List.mem_cons_of_mem _ (List.mem_append_right _ h)) hown hK hP 0 rfl rfl 36 (by decide) (hts (.fieldLink RX12 108 "TemplateForgeModel" "placeIs" "[I") (List.mem_of_getElem? (i := 3) rfl)) (fun _ h9 => h9) rfl dX12_makeTwo_51 ?_
            refine lv_iload_n hx hb dX12_makeTwo_54 rfl (lv_at hl 1 rfl) ?_
            have hin_25 := h.1
            have h := h.2
            refine va_iald hx hb hK hP 33 0 rfl rfl hin_25 dX12_makeTwo_55 ?_
            refine lv_aload_n hx hb dX12_makeTwo_56 rfl (lv_at hl 2 rfl) ?_
            refine va_get (D := D) (ci := 12) (v := .ref (q 36)) (C := RX12) (T := TX12) (N := 52) hx hb hts (fun _ h => List.mem_cons_of_mem _ (List.mem_append_right _ h)) hown hK hP 0 rfl rfl 36 (by decide) (hts (.fieldLink RX12 108 "TemplateForgeModel" "placeIs" "[I") (List.mem_of_getElem? (i := 3) rfl)) (fun _ h9 => h9) rfl dX12_makeTwo_57 ?_
            refine lv_iload hx hb dX12_makeTwo_60 (lv_at hl 0 rfl) ?_
            have hin_26 := h.1
            have h := h.2
            refine va_iald hx hb hK hP 33 0 rfl rfl hin_26 dX12_makeTwo_62 ?_
            have hP0 : va_P D vwCl [] H := fun k q h => by simp at h
            refine vp_callSi (va_Run.run (va_runS (As := [.int a1, .int (S 36 (a2 - 2 : Int32).toNatClampNeg), .int (S 36 (a2 - 1 : Int32).toNatClampNeg)]) (rest := [.int (a2 - 2), .ref (q 36)]) ⟨hx, hb, hml, hown, hts⟩ (zd_X12_sumOf l D cI cZ cP cF a1 (S 36 (a2 - 2 : Int32).toNatClampNeg) (S 36 (a2 - 1 : Int32).toNatClampNeg)  _ h) (va_cwS 3 hts zg_zd_X12_makeTwo_zd_X12_sumOf_195 rfl rfl rfl (by decide +kernel) ⟨Nat.le_of_ble_eq_true rfl, Nat.le_of_ble_eq_true rfl⟩) ⟨zBR, fun U hU hW => ⟨rfl, by rw [hU]; exact hP0, hE.warm hW⟩⟩ rfl rfl hl.1 rfl (lv_room (Nat.le_of_ble_eq_true rfl)) dX12_makeTwo_63 ⟨Nat.le_of_ble_eq_true rfl, Nat.le_of_ble_eq_true rfl⟩)) (fun r27 h => ?_)
            have hin_28 := h.1
            have h := h.2
            refine va_iast hx hb hK hP hD hS 33 0 rfl rfl hin_28 dX12_makeTwo_66 (fun H locs hP hD hS => ?_)
            obtain ⟨S28, eS28⟩ : ∃ z, z = ms S 36 (upd (S 36) (a2 - 2 : Int32).toNatClampNeg r27) := ⟨_, rfl⟩
            have hP : va_P D vwCl (mW cI cZ h0 q S28) H := by rw [eS28]; exact hP
            have hD : va_D A (mW cI cZ h0 q S28) := by rw [eS28]; exact hD
            have h := h S28 eS28
            refine lv_goto (tgt := 101) hx hb dX12_makeTwo_67 (by decide) ?_
            refine lv_aload_n hx hb dX12_makeTwo_101 rfl (lv_at hl 2 rfl) ?_
            refine va_get (D := D) (ci := 12) (v := .ref (q 35)) (C := RX12) (T := TX12) (N := 52) hx hb hts (fun _ h => List.mem_cons_of_mem _ (List.mem_append_right _ h)) hown hK hP 0 rfl rfl 35 (by decide) (hts (.fieldLink RX12 105 "TemplateForgeModel" "placeKnown" "[Z") (List.mem_of_getElem? (i := 1) rfl)) (fun _ h9 => h9) rfl dX12_makeTwo_102 ?_
            refine lv_iload hx hb dX12_makeTwo_105 (lv_at hl 0 rfl) ?_
            refine lv_iconst (v := 0) hx hb dX12_makeTwo_107 (by decide) ?_
            have hin_29 := h.1
            have h := h.2
            refine va_zast hx hb hK hP hD hS 32 1 rfl rfl hin_29 dX12_makeTwo_108 (fun H locs hP hD hS => ?_)
            obtain ⟨S29, eS29⟩ : ∃ z, z = ms S28 35 (upd (S28 35) (a2 - 1 : Int32).toNatClampNeg (vp_nar .boolean 0)) := ⟨_, rfl⟩
            have hP : va_P D vwCl (mW cI cZ h0 q S29) H := by rw [eS29]; exact hP
            have hD : va_D A (mW cI cZ h0 q S29) := by rw [eS29]; exact hD
            have h := h S29 eS29
            exact W.vret hx hb hr (fun t ht hW => ⟨⟨S29, rfl, h, by rw [ht]; exact hP, hD⟩, hS.F ht⟩) hS.2.2 dX12_makeTwo_109
  exact key _ _ hP va_S.rf
def wp_X12_make (S : MST) (a1 : Int32) (a2 : Int32) (Post : MST → Prop) : Prop :=
  vp_in ((60 * a1) + a2) 480 ∧ (vp_in ((60 * a1) + a2) 480 ∧ (vp_in ((60 * a1) + a2) 480 ∧ (((S 4 ((60 * a1) + a2 : Int32).toNatClampNeg : Int32).toInt < 0 ∨ 19 < (S 4 ((60 * a1) + a2 : Int32).toNatClampNeg : Int32).toInt → (wp_X12_makeTwo S (S 4 ((60 * a1) + a2 : Int32).toNatClampNeg) (S 7 ((60 * a1) + a2 : Int32).toNatClampNeg) (fun S4 => Post S4))) ∧ ((S 4 ((60 * a1) + a2 : Int32).toNatClampNeg) = 0 → (wp_X12_knows S (S 7 ((60 * a1) + a2 : Int32).toNatClampNeg) (S 5 ((60 * a1) + a2 : Int32).toNatClampNeg) (fun S5 => Post S5))) ∧ ((S 4 ((60 * a1) + a2 : Int32).toNatClampNeg) = 1 → (vp_in (S 5 ((60 * a1) + a2 : Int32).toNatClampNeg) 7 ∧ (((((S 33 (S 5 ((60 * a1) + a2 : Int32).toNatClampNeg : Int32).toNatClampNeg) : Int32) = 0) → (wp_X12_part S 1 (7 + (S 7 ((60 * a1) + a2 : Int32).toNatClampNeg)) (S 5 ((60 * a1) + a2 : Int32).toNatClampNeg) 0 (fun S8 => Post S8))) ∧ ((¬ (((S 33 (S 5 ((60 * a1) + a2 : Int32).toNatClampNeg : Int32).toNatClampNeg) : Int32) = 0)) → (vp_in (S 5 ((60 * a1) + a2 : Int32).toNatClampNeg) 7 ∧ (wp_X12_knows S (S 7 ((60 * a1) + a2 : Int32).toNatClampNeg) (S 34 (S 5 ((60 * a1) + a2 : Int32).toNatClampNeg : Int32).toNatClampNeg) (fun S10 => Post S10))))))) ∧ ((S 4 ((60 * a1) + a2 : Int32).toNatClampNeg) = 2 → (vp_in ((S 7 ((60 * a1) + a2 : Int32).toNatClampNeg) - 1) 9 ∧ (vp_in (S 5 ((60 * a1) + a2 : Int32).toNatClampNeg) 7 ∧ (∀ S12 : MST, S12 = ms S 33 (upd (S 33) (S 5 ((60 * a1) + a2 : Int32).toNatClampNeg : Int32).toNatClampNeg (vp_nar .boolean (S 35 ((S 7 ((60 * a1) + a2 : Int32).toNatClampNeg) - 1 : Int32).toNatClampNeg))) → (vp_in ((S 7 ((60 * a1) + a2 : Int32).toNatClampNeg) - 1) 9 ∧ (((((S12 35 ((S 7 ((60 * a1) + a2 : Int32).toNatClampNeg) - 1 : Int32).toNatClampNeg) : Int32) = 0) → (wp_X12_part S12 1 (S 5 ((60 * a1) + a2 : Int32).toNatClampNeg) (6 + (S 7 ((60 * a1) + a2 : Int32).toNatClampNeg)) 0 (fun S15 => vp_in ((S 7 ((60 * a1) + a2 : Int32).toNatClampNeg) - 1) 9 ∧ (∀ S16 : MST, S16 = ms S15 35 (upd (S15 35) ((S 7 ((60 * a1) + a2 : Int32).toNatClampNeg) - 1 : Int32).toNatClampNeg (vp_nar .boolean 0)) → (Post S16))))) ∧ ((¬ (((S12 35 ((S 7 ((60 * a1) + a2 : Int32).toNatClampNeg) - 1 : Int32).toNatClampNeg) : Int32) = 0)) → (vp_in ((S 7 ((60 * a1) + a2 : Int32).toNatClampNeg) - 1) 9 ∧ (vp_in (S 5 ((60 * a1) + a2 : Int32).toNatClampNeg) 7 ∧ (∀ S18 : MST, S18 = ms S12 34 (upd (S12 34) (S 5 ((60 * a1) + a2 : Int32).toNatClampNeg : Int32).toNatClampNeg (S12 36 ((S 7 ((60 * a1) + a2 : Int32).toNatClampNeg) - 1 : Int32).toNatClampNeg)) → (vp_in ((S 7 ((60 * a1) + a2 : Int32).toNatClampNeg) - 1) 9 ∧ (wp_X12_part S18 0 (S 5 ((60 * a1) + a2 : Int32).toNatClampNeg) (S18 36 ((S 7 ((60 * a1) + a2 : Int32).toNatClampNeg) - 1 : Int32).toNatClampNeg) 0 (fun S20 => vp_in ((S 7 ((60 * a1) + a2 : Int32).toNatClampNeg) - 1) 9 ∧ (∀ S21 : MST, S21 = ms S20 35 (upd (S20 35) ((S 7 ((60 * a1) + a2 : Int32).toNatClampNeg) - 1 : Int32).toNatClampNeg (vp_nar .boolean 0)) → (Post S21))))))))))))))) ∧ ((S 4 ((60 * a1) + a2 : Int32).toNatClampNeg) = 3 → (wp_X12_makeTwo S (S 4 ((60 * a1) + a2 : Int32).toNatClampNeg) (S 7 ((60 * a1) + a2 : Int32).toNatClampNeg) (fun S22 => Post S22))) ∧ ((S 4 ((60 * a1) + a2 : Int32).toNatClampNeg) = 4 → (wp_X12_makeTwo S (S 4 ((60 * a1) + a2 : Int32).toNatClampNeg) (S 7 ((60 * a1) + a2 : Int32).toNatClampNeg) (fun S23 => Post S23))) ∧ ((S 4 ((60 * a1) + a2 : Int32).toNatClampNeg) = 5 → (wp_X12_makeTwo S (S 4 ((60 * a1) + a2 : Int32).toNatClampNeg) (S 7 ((60 * a1) + a2 : Int32).toNatClampNeg) (fun S24 => Post S24))) ∧ ((S 4 ((60 * a1) + a2 : Int32).toNatClampNeg) = 6 → (wp_X12_makeTwo S (S 4 ((60 * a1) + a2 : Int32).toNatClampNeg) (S 7 ((60 * a1) + a2 : Int32).toNatClampNeg) (fun S25 => Post S25))) ∧ ((S 4 ((60 * a1) + a2 : Int32).toNatClampNeg) = 7 → (wp_X12_makeTwo S (S 4 ((60 * a1) + a2 : Int32).toNatClampNeg) (S 7 ((60 * a1) + a2 : Int32).toNatClampNeg) (fun S26 => Post S26))) ∧ ((S 4 ((60 * a1) + a2 : Int32).toNatClampNeg) = 8 → (wp_X12_makeTwo S (S 4 ((60 * a1) + a2 : Int32).toNatClampNeg) (S 7 ((60 * a1) + a2 : Int32).toNatClampNeg) (fun S27 => Post S27))) ∧ ((S 4 ((60 * a1) + a2 : Int32).toNatClampNeg) = 9 → (wp_X12_layAll S (S 7 ((60 * a1) + a2 : Int32).toNatClampNeg) (fun S28 => wp_X12_part S28 8 (S 5 ((60 * a1) + a2 : Int32).toNatClampNeg) 0 0 (fun S29 => Post S29)))) ∧ ((S 4 ((60 * a1) + a2 : Int32).toNatClampNeg) = 10 → (wp_X12_makeWhen S (S 5 ((60 * a1) + a2 : Int32).toNatClampNeg) (S 7 ((60 * a1) + a2 : Int32).toNatClampNeg) (fun S30 => Post S30))) ∧ ((S 4 ((60 * a1) + a2 : Int32).toNatClampNeg) = 11 → (wp_X12_layAll S (S 7 ((60 * a1) + a2 : Int32).toNatClampNeg) (fun S31 => vp_in (S 5 ((60 * a1) + a2 : Int32).toNatClampNeg) 8 ∧ (wp_X12_part S31 10 ((7 + (S 7 ((60 * a1) + a2 : Int32).toNatClampNeg)) - (S31 1 (S 5 ((60 * a1) + a2 : Int32).toNatClampNeg : Int32).toNatClampNeg)) (S 5 ((60 * a1) + a2 : Int32).toNatClampNeg) 0 (fun S33 => wp_X12_fieldGuards S33 a1 (fun S34 => Post S34)))))) ∧ ((S 4 ((60 * a1) + a2 : Int32).toNatClampNeg) = 12 → (wp_X12_layOne S ((S 7 ((60 * a1) + a2 : Int32).toNatClampNeg) - 1) (fun S35 => wp_X12_part S35 11 0 (6 + (S 7 ((60 * a1) + a2 : Int32).toNatClampNeg)) 0 (fun S36 => Post S36)))) ∧ ((S 4 ((60 * a1) + a2 : Int32).toNatClampNeg) = 13 → (vp_in (3 + (S 5 ((60 * a1) + a2 : Int32).toNatClampNeg)) 11 ∧ (((((S 30 (3 + (S 5 ((60 * a1) + a2 : Int32).toNatClampNeg) : Int32).toNatClampNeg) : Int32) = 0) → (wp_X12_part S 12 (7 + (S 7 ((60 * a1) + a2 : Int32).toNatClampNeg)) (S 5 ((60 * a1) + a2 : Int32).toNatClampNeg) 0 (fun S39 => Post S39))) ∧ ((¬ (((S 30 (3 + (S 5 ((60 * a1) + a2 : Int32).toNatClampNeg) : Int32).toNatClampNeg) : Int32) = 0)) → (vp_in (((11 * a1) + 3) + (S 5 ((60 * a1) + a2 : Int32).toNatClampNeg)) 88 ∧ (wp_X12_knows S (S 7 ((60 * a1) + a2 : Int32).toNatClampNeg) (S 20 (((11 * a1) + 3) + (S 5 ((60 * a1) + a2 : Int32).toNatClampNeg) : Int32).toNatClampNeg) (fun S41 => Post S41))))))) ∧ ((S 4 ((60 * a1) + a2 : Int32).toNatClampNeg) = 14 → (wp_X12_layOne S ((S 7 ((60 * a1) + a2 : Int32).toNatClampNeg) - 1) (fun S42 => wp_X12_part S42 13 (S 5 ((60 * a1) + a2 : Int32).toNatClampNeg) (6 + (S 7 ((60 * a1) + a2 : Int32).toNatClampNeg)) 0 (fun S43 => Post S43)))) ∧ ((S 4 ((60 * a1) + a2 : Int32).toNatClampNeg) = 15 → (wp_X12_layOne S ((S 7 ((60 * a1) + a2 : Int32).toNatClampNeg) - 1) (fun S44 => wp_X12_part S44 14 (S 5 ((60 * a1) + a2 : Int32).toNatClampNeg) (6 + (S 7 ((60 * a1) + a2 : Int32).toNatClampNeg)) 0 (fun S45 => Post S45)))) ∧ ((S 4 ((60 * a1) + a2 : Int32).toNatClampNeg) = 16 → (wp_X12_layOne S ((S 7 ((60 * a1) + a2 : Int32).toNatClampNeg) - 1) (fun S46 => wp_X12_part S46 15 (6 + (S 7 ((60 * a1) + a2 : Int32).toNatClampNeg)) (S 5 ((60 * a1) + a2 : Int32).toNatClampNeg) (6 + (S 7 ((60 * a1) + a2 : Int32).toNatClampNeg)) (fun S47 => Post S47)))) ∧ ((S 4 ((60 * a1) + a2 : Int32).toNatClampNeg) = 17 → (wp_X12_layOne S ((S 7 ((60 * a1) + a2 : Int32).toNatClampNeg) - 2) (fun S48 => wp_X12_layOne S48 ((S 7 ((60 * a1) + a2 : Int32).toNatClampNeg) - 1) (fun S49 => wp_X12_part S49 16 (S 5 ((60 * a1) + a2 : Int32).toNatClampNeg) ((6 + (S 7 ((60 * a1) + a2 : Int32).toNatClampNeg)) - 1) (6 + (S 7 ((60 * a1) + a2 : Int32).toNatClampNeg)) (fun S50 => Post S50))))) ∧ ((S 4 ((60 * a1) + a2 : Int32).toNatClampNeg) = 18 → (vp_in ((S 7 ((60 * a1) + a2 : Int32).toNatClampNeg) - 1) 9 ∧ (((((S 35 ((S 7 ((60 * a1) + a2 : Int32).toNatClampNeg) - 1 : Int32).toNatClampNeg) : Int32) = 0) → (wp_X12_part S 1 (7 + (S 7 ((60 * a1) + a2 : Int32).toNatClampNeg)) (6 + (S 7 ((60 * a1) + a2 : Int32).toNatClampNeg)) 0 (fun S53 => Post S53))) ∧ ((¬ (((S 35 ((S 7 ((60 * a1) + a2 : Int32).toNatClampNeg) - 1 : Int32).toNatClampNeg) : Int32) = 0)) → (vp_in ((S 7 ((60 * a1) + a2 : Int32).toNatClampNeg) - 1) 9 ∧ (wp_X12_knows S (S 7 ((60 * a1) + a2 : Int32).toNatClampNeg) (S 36 ((S 7 ((60 * a1) + a2 : Int32).toNatClampNeg) - 1 : Int32).toNatClampNeg) (fun S55 => Post S55))))))) ∧ ((S 4 ((60 * a1) + a2 : Int32).toNatClampNeg) = 19 → (vp_in ((S 7 ((60 * a1) + a2 : Int32).toNatClampNeg) - 1) 9 ∧ (∀ S56 : MST, S56 = ms S 35 (upd (S 35) ((S 7 ((60 * a1) + a2 : Int32).toNatClampNeg) - 1 : Int32).toNatClampNeg (vp_nar .boolean 0)) → (Post S56)))))))
def zw_zd_X12_make_w0 : List Cond := [.fieldLink RX12 19 "TemplateForgeModel" "op" "[I", .fieldLink RX12 22 "TemplateForgeModel" "operand" "[I", .fieldLink RX12 29 "TemplateForgeModel" "depths" "[I", .code yX12_makeTwo cX12_makeTwo 5 none, .fieldLink RX12 105 "TemplateForgeModel" "placeKnown" "[Z", .code yX12_layOne cX12_layOne 2 none, .fieldLink RX12 108 "TemplateForgeModel" "placeIs" "[I", .code yX12_part cX12_part 6 none, .fieldLink RX12 181 "TemplateForgeModel" "code" "I", .fieldLink RX12 74 "TemplateForgeModel" "partMany" "[I", .fieldLink RX12 81 "TemplateForgeModel" "partOp" "[I", .fieldLink RX12 84 "TemplateForgeModel" "partD" "[I", .fieldLink RX12 87 "TemplateForgeModel" "partA" "[I", .fieldLink RX12 90 "TemplateForgeModel" "partB" "[I", .fieldLink RX12 93 "TemplateForgeModel" "partOf" "[I", .fieldLink RX12 184 "TemplateForgeModel" "owner" "I"]
def zw_zd_X12_make_w1 : List Cond := [.methodLink RX12 187 yX12_part, .instanceMethod yX12_part, .selects RX12 yX12_part yX12_part, .initialized RX12, .methodLink RX12 191 yX12_layOne, .instanceMethod yX12_layOne, .selects RX12 yX12_layOne yX12_layOne, .code yX12_sumOf cX12_sumOf 3 (some .int), .methodLink RX12 195 yX12_sumOf, .static yX12_sumOf, .methodLink RX12 211 yX12_makeTwo, .instanceMethod yX12_makeTwo, .selects RX12 yX12_makeTwo yX12_makeTwo, .code yX12_knows cX12_knows 3 none, .methodLink RX12 201 yX12_knows, .instanceMethod yX12_knows]
def zw_zd_X12_make_w2 : List Cond := [.selects RX12 yX12_knows yX12_knows, .fieldLink RX12 99 "TemplateForgeModel" "localKnown" "[Z", .fieldLink RX12 102 "TemplateForgeModel" "localIs" "[I", .code yX12_layAll cX12_layAll 3 none, .methodLink RX12 198 yX12_layAll, .instanceMethod yX12_layAll, .selects RX12 yX12_layAll yX12_layAll, .code yX12_makeWhen cX12_makeWhen 3 none, .methodLink RX12 205 yX12_makeWhen, .instanceMethod yX12_makeWhen, .selects RX12 yX12_makeWhen yX12_makeWhen, .fieldLink RX12 7 "TemplateForgeModel" "args" "[I", .code yX12_fieldGuards cX12_fieldGuards 3 none, .fieldLink RX12 96 "TemplateForgeModel" "assumed" "[Z", .fieldLink RX12 65 "TemplateForgeModel" "value" "[I", .methodLink RX12 208 yX12_fieldGuards]
def zw_zd_X12_make_w3 : List Cond := [.instanceMethod yX12_fieldGuards, .selects RX12 yX12_fieldGuards yX12_fieldGuards]
def zw_zd_X12_make : List Cond := .code yX12_make cX12_make 7 none :: ((zw_zd_X12_make_w0 ++ (zw_zd_X12_make_w1 ++ (zw_zd_X12_make_w2 ++ (zw_zd_X12_make_w3)))) ++ wsX120)
set_option maxRecDepth 100000 in
theorem zg_zd_X12_make_zd_X12_makeTwo_211_a : GoodIn zw_zd_X12_make [.methodLink RX12 211 yX12_makeTwo, .instanceMethod yX12_makeTwo, .selects RX12 yX12_makeTwo yX12_makeTwo, .initialized RX12] := goodIn_r _ [27, 28, 29, 20] rfl (by decide +kernel)
set_option maxRecDepth 100000 in
theorem zg_zd_X12_make_zd_X12_makeTwo_211_c : GoodIn zw_zd_X12_make [.code yX12_makeTwo cX12_makeTwo 5 none] := goodIn_r _ [4] rfl (by decide +kernel)
set_option maxRecDepth 100000 in
theorem zg_zd_X12_make_zd_X12_makeTwo_211_0 : GoodIn zw_zd_X12_make zw_zd_X12_makeTwo_w0 := goodIn_r _ [5, 6, 7, 8, 9, 10, 11, 12, 13, 14, 15, 16, 17, 18, 19, 20] rfl (by decide +kernel)
set_option maxRecDepth 100000 in
theorem zg_zd_X12_make_zd_X12_makeTwo_211_1 : GoodIn zw_zd_X12_make zw_zd_X12_makeTwo_w1 := goodIn_r _ [21, 22, 23, 24, 25, 26] rfl (by decide +kernel)
theorem zg_zd_X12_make_zd_X12_makeTwo_211 : GoodIn zw_zd_X12_make (wsV RX12 211 RX12 yX12_makeTwo zw_zd_X12_makeTwo) := goodIn_app zg_zd_X12_make_zd_X12_makeTwo_211_a (goodIn_ca (a := (zw_zd_X12_makeTwo_w0 ++ (zw_zd_X12_makeTwo_w1))) (show GoodIn zw_zd_X12_make (.code yX12_makeTwo cX12_makeTwo 5 none :: (zw_zd_X12_makeTwo_w0 ++ (zw_zd_X12_makeTwo_w1))) from goodIn_app zg_zd_X12_make_zd_X12_makeTwo_211_c (goodIn_app zg_zd_X12_make_zd_X12_makeTwo_211_0 (zg_zd_X12_make_zd_X12_makeTwo_211_1))) (fun w h => ⟨(fun _ h => List.mem_cons_of_mem _ (List.mem_append_right _ h)) w h, good_of_word (List.all_eq_true.mp zgw_X12 w h)⟩))
set_option maxRecDepth 100000 in
theorem zg_zd_X12_make_zd_X12_knows_201_a : GoodIn zw_zd_X12_make [.methodLink RX12 201 yX12_knows, .instanceMethod yX12_knows, .selects RX12 yX12_knows yX12_knows, .initialized RX12] := goodIn_r _ [31, 32, 33, 20] rfl (by decide +kernel)
set_option maxRecDepth 100000 in
theorem zg_zd_X12_make_zd_X12_knows_201_c : GoodIn zw_zd_X12_make [.code yX12_knows cX12_knows 3 none] := goodIn_r _ [30] rfl (by decide +kernel)
set_option maxRecDepth 100000 in
theorem zg_zd_X12_make_zd_X12_knows_201_0 : GoodIn zw_zd_X12_make zw_zd_X12_knows_w0 := goodIn_r _ [5, 7] rfl (by decide +kernel)
theorem zg_zd_X12_make_zd_X12_knows_201 : GoodIn zw_zd_X12_make (wsV RX12 201 RX12 yX12_knows zw_zd_X12_knows) := goodIn_app zg_zd_X12_make_zd_X12_knows_201_a (goodIn_ca (a := (zw_zd_X12_knows_w0)) (show GoodIn zw_zd_X12_make (.code yX12_knows cX12_knows 3 none :: (zw_zd_X12_knows_w0)) from goodIn_app zg_zd_X12_make_zd_X12_knows_201_c (zg_zd_X12_make_zd_X12_knows_201_0)) (fun w h => ⟨(fun _ h => List.mem_cons_of_mem _ (List.mem_append_right _ h)) w h, good_of_word (List.all_eq_true.mp zgw_X12 w h)⟩))
set_option maxRecDepth 100000 in
theorem zg_zd_X12_make_zd_X12_part_187_a : GoodIn zw_zd_X12_make [.methodLink RX12 187 yX12_part, .instanceMethod yX12_part, .selects RX12 yX12_part yX12_part, .initialized RX12] := goodIn_r _ [17, 18, 19, 20] rfl (by decide +kernel)
set_option maxRecDepth 100000 in
theorem zg_zd_X12_make_zd_X12_part_187_c : GoodIn zw_zd_X12_make [.code yX12_part cX12_part 6 none] := goodIn_r _ [8] rfl (by decide +kernel)
set_option maxRecDepth 100000 in
theorem zg_zd_X12_make_zd_X12_part_187_0 : GoodIn zw_zd_X12_make zw_zd_X12_part_w0 := goodIn_r _ [9, 10, 11, 12, 13, 14, 15, 16] rfl (by decide +kernel)
theorem zg_zd_X12_make_zd_X12_part_187 : GoodIn zw_zd_X12_make (wsV RX12 187 RX12 yX12_part zw_zd_X12_part) := goodIn_app zg_zd_X12_make_zd_X12_part_187_a (goodIn_ca (a := (zw_zd_X12_part_w0)) (show GoodIn zw_zd_X12_make (.code yX12_part cX12_part 6 none :: (zw_zd_X12_part_w0)) from goodIn_app zg_zd_X12_make_zd_X12_part_187_c (zg_zd_X12_make_zd_X12_part_187_0)) (fun w h => ⟨(fun _ h => List.mem_cons_of_mem _ (List.mem_append_right _ h)) w h, good_of_word (List.all_eq_true.mp zgw_X12 w h)⟩))
set_option maxRecDepth 100000 in
theorem zg_zd_X12_make_zd_X12_layAll_198_a : GoodIn zw_zd_X12_make [.methodLink RX12 198 yX12_layAll, .instanceMethod yX12_layAll, .selects RX12 yX12_layAll yX12_layAll, .initialized RX12] := goodIn_r _ [37, 38, 39, 20] rfl (by decide +kernel)
set_option maxRecDepth 100000 in
theorem zg_zd_X12_make_zd_X12_layAll_198_c : GoodIn zw_zd_X12_make [.code yX12_layAll cX12_layAll 3 none] := goodIn_r _ [36] rfl (by decide +kernel)
set_option maxRecDepth 100000 in
theorem zg_zd_X12_make_zd_X12_layAll_198_0 : GoodIn zw_zd_X12_make zw_zd_X12_layAll_w0 := goodIn_r _ [6, 5, 7, 8, 9, 10, 11, 12, 13, 14, 15, 16, 17, 18, 19, 20] rfl (by decide +kernel)
set_option maxRecDepth 100000 in
theorem zg_zd_X12_make_zd_X12_layAll_198_1 : GoodIn zw_zd_X12_make zw_zd_X12_layAll_w1 := goodIn_r _ [21, 22, 23] rfl (by decide +kernel)
theorem zg_zd_X12_make_zd_X12_layAll_198 : GoodIn zw_zd_X12_make (wsV RX12 198 RX12 yX12_layAll zw_zd_X12_layAll) := goodIn_app zg_zd_X12_make_zd_X12_layAll_198_a (goodIn_ca (a := (zw_zd_X12_layAll_w0 ++ (zw_zd_X12_layAll_w1))) (show GoodIn zw_zd_X12_make (.code yX12_layAll cX12_layAll 3 none :: (zw_zd_X12_layAll_w0 ++ (zw_zd_X12_layAll_w1))) from goodIn_app zg_zd_X12_make_zd_X12_layAll_198_c (goodIn_app zg_zd_X12_make_zd_X12_layAll_198_0 (zg_zd_X12_make_zd_X12_layAll_198_1))) (fun w h => ⟨(fun _ h => List.mem_cons_of_mem _ (List.mem_append_right _ h)) w h, good_of_word (List.all_eq_true.mp zgw_X12 w h)⟩))
set_option maxRecDepth 100000 in
theorem zg_zd_X12_make_zd_X12_makeWhen_205_a : GoodIn zw_zd_X12_make [.methodLink RX12 205 yX12_makeWhen, .instanceMethod yX12_makeWhen, .selects RX12 yX12_makeWhen yX12_makeWhen, .initialized RX12] := goodIn_r _ [41, 42, 43, 20] rfl (by decide +kernel)
set_option maxRecDepth 100000 in
theorem zg_zd_X12_make_zd_X12_makeWhen_205_c : GoodIn zw_zd_X12_make [.code yX12_makeWhen cX12_makeWhen 3 none] := goodIn_r _ [40] rfl (by decide +kernel)
set_option maxRecDepth 100000 in
theorem zg_zd_X12_make_zd_X12_makeWhen_205_0 : GoodIn zw_zd_X12_make zw_zd_X12_makeWhen_w0 := goodIn_r _ [5, 7, 36, 6, 8, 9, 10, 11, 12, 13, 14, 15, 16, 17, 18, 19] rfl (by decide +kernel)
set_option maxRecDepth 100000 in
theorem zg_zd_X12_make_zd_X12_makeWhen_205_1 : GoodIn zw_zd_X12_make zw_zd_X12_makeWhen_w1 := goodIn_r _ [20, 21, 22, 23, 37, 38, 39] rfl (by decide +kernel)
theorem zg_zd_X12_make_zd_X12_makeWhen_205 : GoodIn zw_zd_X12_make (wsV RX12 205 RX12 yX12_makeWhen zw_zd_X12_makeWhen) := goodIn_app zg_zd_X12_make_zd_X12_makeWhen_205_a (goodIn_ca (a := (zw_zd_X12_makeWhen_w0 ++ (zw_zd_X12_makeWhen_w1))) (show GoodIn zw_zd_X12_make (.code yX12_makeWhen cX12_makeWhen 3 none :: (zw_zd_X12_makeWhen_w0 ++ (zw_zd_X12_makeWhen_w1))) from goodIn_app zg_zd_X12_make_zd_X12_makeWhen_205_c (goodIn_app zg_zd_X12_make_zd_X12_makeWhen_205_0 (zg_zd_X12_make_zd_X12_makeWhen_205_1))) (fun w h => ⟨(fun _ h => List.mem_cons_of_mem _ (List.mem_append_right _ h)) w h, good_of_word (List.all_eq_true.mp zgw_X12 w h)⟩))
set_option maxRecDepth 100000 in
theorem zg_zd_X12_make_zd_X12_fieldGuards_208_a : GoodIn zw_zd_X12_make [.methodLink RX12 208 yX12_fieldGuards, .instanceMethod yX12_fieldGuards, .selects RX12 yX12_fieldGuards yX12_fieldGuards, .initialized RX12] := goodIn_r _ [48, 49, 50, 20] rfl (by decide +kernel)
set_option maxRecDepth 100000 in
theorem zg_zd_X12_make_zd_X12_fieldGuards_208_c : GoodIn zw_zd_X12_make [.code yX12_fieldGuards cX12_fieldGuards 3 none] := goodIn_r _ [45] rfl (by decide +kernel)
set_option maxRecDepth 100000 in
theorem zg_zd_X12_make_zd_X12_fieldGuards_208_0 : GoodIn zw_zd_X12_make zw_zd_X12_fieldGuards_w0 := goodIn_r _ [46, 47, 8, 9, 10, 11, 12, 13, 14, 15, 16, 17, 18, 19, 20] rfl (by decide +kernel)
theorem zg_zd_X12_make_zd_X12_fieldGuards_208 : GoodIn zw_zd_X12_make (wsV RX12 208 RX12 yX12_fieldGuards zw_zd_X12_fieldGuards) := goodIn_app zg_zd_X12_make_zd_X12_fieldGuards_208_a (goodIn_ca (a := (zw_zd_X12_fieldGuards_w0)) (show GoodIn zw_zd_X12_make (.code yX12_fieldGuards cX12_fieldGuards 3 none :: (zw_zd_X12_fieldGuards_w0)) from goodIn_app zg_zd_X12_make_zd_X12_fieldGuards_208_c (zg_zd_X12_make_zd_X12_fieldGuards_208_0)) (fun w h => ⟨(fun _ h => List.mem_cons_of_mem _ (List.mem_append_right _ h)) w h, good_of_word (List.all_eq_true.mp zgw_X12 w h)⟩))
set_option maxRecDepth 100000 in
theorem zg_zd_X12_make_zd_X12_layOne_191_a : GoodIn zw_zd_X12_make [.methodLink RX12 191 yX12_layOne, .instanceMethod yX12_layOne, .selects RX12 yX12_layOne yX12_layOne, .initialized RX12] := goodIn_r _ [21, 22, 23, 20] rfl (by decide +kernel)
set_option maxRecDepth 100000 in
theorem zg_zd_X12_make_zd_X12_layOne_191_c : GoodIn zw_zd_X12_make [.code yX12_layOne cX12_layOne 2 none] := goodIn_r _ [6] rfl (by decide +kernel)
set_option maxRecDepth 100000 in
theorem zg_zd_X12_make_zd_X12_layOne_191_0 : GoodIn zw_zd_X12_make zw_zd_X12_layOne_w0 := goodIn_r _ [5, 7, 8, 9, 10, 11, 12, 13, 14, 15, 16, 17, 18, 19, 20] rfl (by decide +kernel)
theorem zg_zd_X12_make_zd_X12_layOne_191 : GoodIn zw_zd_X12_make (wsV RX12 191 RX12 yX12_layOne zw_zd_X12_layOne) := goodIn_app zg_zd_X12_make_zd_X12_layOne_191_a (goodIn_ca (a := (zw_zd_X12_layOne_w0)) (show GoodIn zw_zd_X12_make (.code yX12_layOne cX12_layOne 2 none :: (zw_zd_X12_layOne_w0)) from goodIn_app zg_zd_X12_make_zd_X12_layOne_191_c (zg_zd_X12_make_zd_X12_layOne_191_0)) (fun w h => ⟨(fun _ h => List.mem_cons_of_mem _ (List.mem_append_right _ h)) w h, good_of_word (List.all_eq_true.mp zgw_X12 w h)⟩))
set_option maxHeartbeats 16000000 in
set_option maxRecDepth 100000 in
theorem zd_X12_make (l : Launch) (D : va_G) (cI cZ cP cF : Nat) (h0 : Nat) (q : Nat → Nat) (S : MST) (a1 : Int32) (a2 : Int32) (sz : Nat) (Post : MST → Prop) (h : wp_X12_make S a1 a2 Post) : Met l yX12_make zw_zd_X12_make ({ frames := 4, cells := 0, slots := 0, locals := 90 }) (va_Pc [.ref h0, .int a1, .int a2] (fun U => U.heap.size = sz ∧ va_P D vwCl (mW cI cZ h0 q S) U.heap ∧ zE D cI cZ cP cF U ∧ va_D (fun _ => True) (mW cI cZ h0 q S))) (va_Qv (fun S' => Post S') (fun (S' : MST) t => va_P D vwCl (mW cI cZ h0 q S') t.heap ∧ va_D (va_A (mW cI cZ h0 q S) sz) (mW cI cZ h0 q S')) (va_A (mW cI cZ h0 q S) sz)) 0 0 (va_A (mW cI cZ h0 q S) sz) := by
  unfold wp_X12_make at h
  refine Met.ofW (cc := cX12_make) (maxL := 7) (ret := none) (by decide) rfl ?_
  intro p e s m args below meth c s₁ B hml hv
  obtain ⟨rfl, hsz, hP, hE, hD0⟩ := hv
  have hx := B.exec
  have hb := B.bytes
  have hr := B.returns
  have hts := atoms_spec (ws := zw_zd_X12_make) B.pre
  have hown : s.vm.findClass RX12 = some m.cls := findClass_of_methodNamed B.named
  have hlocks := B.notSynchronized
  have hK := hE.k
  subst hsz
  have hD := hD0.self (sz := s.heap.size)
  generalize hAe : va_A (mW cI cZ h0 q S) s.heap.size = A at hD ⊢
  have hA : ∀ q : Nat, s.heap.size ≤ q → A q := fun q h => by rw [← hAe]; exact Or.inr h
  have hl := lv_entry ([.ref h0, .int a1, .int a2]) (n := 7) (Nat.le_of_ble_eq_true rfl)
  rw [lg_entry_eq]
  generalize (lg_sl ([.ref h0, .int a1, .int a2]) ++ List.replicate (7 - (lg_sl ([.ref h0, .int a1, .int a2])).length) Slot.unset).toArray = ls at hl ⊢
  have hl : lv_has ls 7 [(0, .ref h0), (1, .int a1), (2, .int a2)] := hl
  have key : ∀ (H : Heap) (locs : List Loc), va_P D vwCl (mW cI cZ h0 q S) H → va_S A s.heap H locs → W p l e (headSpec zw_zd_X12_make ({ frames := 4, cells := 0, slots := 0, locals := 90 })).room s m ([.ref h0, .int a1, .int a2] : List Value).toArray below meth c H locs 0 0 (MQ below (va_Qv (fun S' => Post S') (fun (S' : MST) t => va_P D vwCl (mW cI cZ h0 q S') t.heap ∧ va_D A (mW cI cZ h0 q S')) A) ([.ref h0, .int a1, .int a2] : List Value).toArray s 0 0 A) (F0 m 0 ls []) := by
    intro H locs hP hS
    refine lv_aload_n hx hb dX12_make_0 rfl (lv_at hl 0 rfl) ?_
    refine va_get (D := D) (ci := 12) (v := .ref (q 4)) (C := RX12) (T := TX12) (N := 52) hx hb hts (fun _ h => List.mem_cons_of_mem _ (List.mem_append_right _ h)) hown hK hP 0 rfl rfl 4 (by decide) (hts (.fieldLink RX12 19 "TemplateForgeModel" "op" "[I") (List.mem_of_getElem? (i := 1) rfl)) (fun _ h9 => h9) rfl dX12_make_1 ?_
    refine lv_bipush (v := 60) hx hb dX12_make_4 (by decide) ?_
    refine lv_iload_n hx hb dX12_make_6 rfl (lv_at hl 1 rfl) ?_
    refine lv_imul hx hb dX12_make_7 ?_
    refine lv_iload_n hx hb dX12_make_8 rfl (lv_at hl 2 rfl) ?_
    refine lv_iadd hx hb dX12_make_9 ?_
    have hin_1 := h.1
    have h := h.2
    refine va_iald hx hb hK hP 4 0 rfl rfl hin_1 dX12_make_10 ?_
    refine lv_istore_n (lv' := [(3, .int (S 4 ((60 * a1) + a2 : Int32).toNatClampNeg)), (0, .ref h0), (1, .int a1), (2, .int a2)]) hx hb dX12_make_11 rfl hl (by decide) rfl (fun ls hl => ?_)
    refine lv_aload_n hx hb dX12_make_12 rfl (lv_at hl 1 rfl) ?_
    refine va_get (D := D) (ci := 12) (v := .ref (q 5)) (C := RX12) (T := TX12) (N := 52) hx hb hts (fun _ h => List.mem_cons_of_mem _ (List.mem_append_right _ h)) hown hK hP 0 rfl rfl 5 (by decide) (hts (.fieldLink RX12 22 "TemplateForgeModel" "operand" "[I") (List.mem_of_getElem? (i := 2) rfl)) (fun _ h9 => h9) rfl dX12_make_13 ?_
    refine lv_bipush (v := 60) hx hb dX12_make_16 (by decide) ?_
    refine lv_iload_n hx hb dX12_make_18 rfl (lv_at hl 2 rfl) ?_
    refine lv_imul hx hb dX12_make_19 ?_
    refine lv_iload_n hx hb dX12_make_20 rfl (lv_at hl 3 rfl) ?_
    refine lv_iadd hx hb dX12_make_21 ?_
    have hin_2 := h.1
    have h := h.2
    refine va_iald hx hb hK hP 5 0 rfl rfl hin_2 dX12_make_22 ?_
    refine lv_istore (lv' := [(4, .int (S 5 ((60 * a1) + a2 : Int32).toNatClampNeg)), (3, .int (S 4 ((60 * a1) + a2 : Int32).toNatClampNeg)), (0, .ref h0), (1, .int a1), (2, .int a2)]) hx hb dX12_make_23 hl (by decide) rfl (fun ls hl => ?_)
    refine lv_aload_n hx hb dX12_make_25 rfl (lv_at hl 2 rfl) ?_
    refine va_get (D := D) (ci := 12) (v := .ref (q 7)) (C := RX12) (T := TX12) (N := 52) hx hb hts (fun _ h => List.mem_cons_of_mem _ (List.mem_append_right _ h)) hown hK hP 0 rfl rfl 7 (by decide) (hts (.fieldLink RX12 29 "TemplateForgeModel" "depths" "[I") (List.mem_of_getElem? (i := 3) rfl)) (fun _ h9 => h9) rfl dX12_make_26 ?_
    refine lv_bipush (v := 60) hx hb dX12_make_29 (by decide) ?_
    refine lv_iload_n hx hb dX12_make_31 rfl (lv_at hl 3 rfl) ?_
    refine lv_imul hx hb dX12_make_32 ?_
    refine lv_iload_n hx hb dX12_make_33 rfl (lv_at hl 4 rfl) ?_
    refine lv_iadd hx hb dX12_make_34 ?_
    have hin_3 := h.1
    have h := h.2
    refine va_iald hx hb hK hP 7 0 rfl rfl hin_3 dX12_make_35 ?_
    refine lv_istore (lv' := [(5, .int (S 7 ((60 * a1) + a2 : Int32).toNatClampNeg)), (4, .int (S 5 ((60 * a1) + a2 : Int32).toNatClampNeg)), (3, .int (S 4 ((60 * a1) + a2 : Int32).toNatClampNeg)), (0, .ref h0), (1, .int a1), (2, .int a2)]) hx hb dX12_make_36 hl (by decide) rfl (fun ls hl => ?_)
    refine lv_bipush (v := 6) hx hb dX12_make_38 (by decide) ?_
    refine lv_iload hx hb dX12_make_40 (lv_at hl 0 rfl) ?_
    refine lv_iadd hx hb dX12_make_42 ?_
    refine lv_istore (lv' := [(6, .int (6 + (S 7 ((60 * a1) + a2 : Int32).toNatClampNeg))), (5, .int (S 7 ((60 * a1) + a2 : Int32).toNatClampNeg)), (4, .int (S 5 ((60 * a1) + a2 : Int32).toNatClampNeg)), (3, .int (S 4 ((60 * a1) + a2 : Int32).toNatClampNeg)), (0, .ref h0), (1, .int a1), (2, .int a2)]) hx hb dX12_make_43 hl (by decide) rfl (fun ls hl => ?_)
    refine lv_iload_n hx hb dX12_make_45 rfl (lv_at hl 3 rfl) ?_
    rcases zt_0_19 (S 4 ((60 * a1) + a2 : Int32).toNatClampNeg) with h_out | h_in | h_in | h_in | h_in | h_in | h_in | h_in | h_in | h_in | h_in | h_in | h_in | h_in | h_in | h_in | h_in | h_in | h_in | h_in | h_in
    · have h := h.1 h_out
      refine lv_tableOut (tgt := 578) hx hb dX12_make_46 h_out (by decide) ?_
      refine lv_aload_n hx hb dX12_make_578 rfl (lv_at hl 4 rfl) ?_
      refine lv_iload_n hx hb dX12_make_579 rfl (lv_at hl 3 rfl) ?_
      refine lv_iload hx hb dX12_make_580 (lv_at hl 1 rfl) ?_
      have hFc := zm_free hD hS hA
      refine va_callv (va_runV (As := [.int (S 4 ((60 * a1) + a2 : Int32).toNatClampNeg), .int (S 7 ((60 * a1) + a2 : Int32).toNatClampNeg)]) (rest := []) ⟨hx, hb, hml, hown, hts⟩ (zd_X12_makeTwo l D cI cZ cP cF h0 q S (S 4 ((60 * a1) + a2 : Int32).toNatClampNeg) (S 7 ((60 * a1) + a2 : Int32).toNatClampNeg) H.size _ h) (cwV 2 hts zg_zd_X12_make_zd_X12_makeTwo_211 rfl rfl rfl (by decide +kernel) ⟨Nat.le_of_ble_eq_true rfl, Nat.le_of_ble_eq_true rfl⟩) ⟨zBW, va_recv hK hP (ci := 12) (q0 := 0) rfl rfl, fun U hU hW => ⟨rfl, by rw [hU], by rw [hU]; exact hP, hE.warm hW, hD.weaken (fun _ _ _ _ => trivial)⟩⟩ rfl rfl hl.1 rfl (lv_room (Nat.le_of_ble_eq_true rfl)) dX12_make_582 ⟨Nat.le_of_ble_eq_true rfl, Nat.le_of_ble_eq_true rfl⟩) hS (fun q _ h => hFc q h) hFc (fun S4 t H locs ht hvm h hB hz1 hk1 hS => ?_)
      obtain ⟨hP, hD1⟩ := hB
      rw [ht] at hP
      have hD := hD1.weaken (fun k q _ hq => hFc q.1 hq)
      exact W.vret hx hb hr (fun t ht hW => ⟨⟨S4, rfl, h, by rw [ht]; exact hP, hD⟩, hS.F ht⟩) hS.2.2 dX12_make_585
    · have h := h.2.1 h_in
      refine lv_tableIn (off := 94) (tgt := 140) hx hb dX12_make_46 (by rw [h_in]; decide) (by rw [h_in]; decide) (by rw [h_in]; decide) (by decide) ?_
      refine lv_aload_n hx hb dX12_make_140 rfl (lv_at hl 4 rfl) ?_
      refine lv_iload hx hb dX12_make_141 (lv_at hl 1 rfl) ?_
      refine lv_iload hx hb dX12_make_143 (lv_at hl 2 rfl) ?_
      have hFc := zm_free hD hS hA
      refine va_callv (va_runV (As := [.int (S 7 ((60 * a1) + a2 : Int32).toNatClampNeg), .int (S 5 ((60 * a1) + a2 : Int32).toNatClampNeg)]) (rest := []) ⟨hx, hb, hml, hown, hts⟩ (zd_X12_knows l D cI cZ cP cF h0 q S (S 7 ((60 * a1) + a2 : Int32).toNatClampNeg) (S 5 ((60 * a1) + a2 : Int32).toNatClampNeg) H.size _ h) (cwV 2 hts zg_zd_X12_make_zd_X12_knows_201 rfl rfl rfl (by decide +kernel) ⟨Nat.le_of_ble_eq_true rfl, Nat.le_of_ble_eq_true rfl⟩) ⟨zBW, va_recv hK hP (ci := 12) (q0 := 0) rfl rfl, fun U hU hW => ⟨rfl, by rw [hU], by rw [hU]; exact hP, hE.warm hW, hD.weaken (fun _ _ _ _ => trivial)⟩⟩ rfl rfl hl.1 rfl (lv_room (Nat.le_of_ble_eq_true rfl)) dX12_make_145 ⟨Nat.le_of_ble_eq_true rfl, Nat.le_of_ble_eq_true rfl⟩) hS (fun q _ h => hFc q h) hFc (fun S5 t H locs ht hvm h hB hz1 hk1 hS => ?_)
      obtain ⟨hP, hD1⟩ := hB
      rw [ht] at hP
      have hD := hD1.weaken (fun k q _ hq => hFc q.1 hq)
      refine lv_goto (tgt := 585) hx hb dX12_make_148 (by decide) ?_
      exact W.vret hx hb hr (fun t ht hW => ⟨⟨S5, rfl, h, by rw [ht]; exact hP, hD⟩, hS.F ht⟩) hS.2.2 dX12_make_585
    · have h := h.2.2.1 h_in
      refine lv_tableIn (off := 105) (tgt := 151) hx hb dX12_make_46 (by rw [h_in]; decide) (by rw [h_in]; decide) (by rw [h_in]; decide) (by decide) ?_
      refine lv_aload_n hx hb dX12_make_151 rfl (lv_at hl 4 rfl) ?_
      refine va_get (D := D) (ci := 12) (v := .ref (q 33)) (C := RX12) (T := TX12) (N := 52) hx hb hts (fun _ h => List.mem_cons_of_mem _ (List.mem_append_right _ h)) hown hK hP 0 rfl rfl 33 (by decide) (hts (.fieldLink RX12 99 "TemplateForgeModel" "localKnown" "[Z") (List.mem_of_getElem? (i := 34) rfl)) (fun _ h9 => h9) rfl dX12_make_152 ?_
      refine lv_iload hx hb dX12_make_155 (lv_at hl 2 rfl) ?_
      have hin_6 := h.1
      have h := h.2
      refine va_zald hx hb hK hP 30 1 rfl rfl hin_6 dX12_make_157 ?_
      refine lv_if_eq (tgt := 177) hx hb dX12_make_158 (by decide) (fun c_7 => ?_) (fun c_7 => ?_)
      · have h := h.1 c_7
        refine lv_aload_n hx hb dX12_make_177 rfl (lv_at hl 4 rfl) ?_
        refine lv_iconst (v := 1) hx hb dX12_make_178 (by decide) ?_
        refine lv_bipush (v := 7) hx hb dX12_make_179 (by decide) ?_
        refine lv_iload hx hb dX12_make_181 (lv_at hl 1 rfl) ?_
        refine lv_iadd hx hb dX12_make_183 ?_
        refine lv_iload hx hb dX12_make_184 (lv_at hl 2 rfl) ?_
        refine lv_iconst (v := 0) hx hb dX12_make_186 (by decide) ?_
        have hFc := zm_free hD hS hA
        refine va_callv (va_runV (As := [.int 1, .int (7 + (S 7 ((60 * a1) + a2 : Int32).toNatClampNeg)), .int (S 5 ((60 * a1) + a2 : Int32).toNatClampNeg), .int 0]) (rest := []) ⟨hx, hb, hml, hown, hts⟩ (zd_X12_part l D cI cZ cP cF h0 q S 1 (7 + (S 7 ((60 * a1) + a2 : Int32).toNatClampNeg)) (S 5 ((60 * a1) + a2 : Int32).toNatClampNeg) 0 H.size _ h) (cwV 4 hts zg_zd_X12_make_zd_X12_part_187 rfl rfl rfl (by decide +kernel) ⟨Nat.le_of_ble_eq_true rfl, Nat.le_of_ble_eq_true rfl⟩) ⟨zBW, va_recv hK hP (ci := 12) (q0 := 0) rfl rfl, fun U hU hW => ⟨rfl, by rw [hU], by rw [hU]; exact hP, hE.warm hW, hD.weaken (fun _ _ _ _ => trivial)⟩⟩ rfl rfl hl.1 rfl (lv_room (Nat.le_of_ble_eq_true rfl)) dX12_make_187 ⟨Nat.le_of_ble_eq_true rfl, Nat.le_of_ble_eq_true rfl⟩) hS (fun q _ h => hFc q h) hFc (fun S8 t H locs ht hvm h hB hz1 hk1 hS => ?_)
        obtain ⟨hP, hD1⟩ := hB
        rw [ht] at hP
        have hD := hD1.weaken (fun k q _ hq => hFc q.1 hq)
        refine lv_goto (tgt := 585) hx hb dX12_make_190 (by decide) ?_
        exact W.vret hx hb hr (fun t ht hW => ⟨⟨S8, rfl, h, by rw [ht]; exact hP, hD⟩, hS.F ht⟩) hS.2.2 dX12_make_585
      · have h := h.2 c_7
        refine lv_aload_n hx hb dX12_make_161 rfl (lv_at hl 4 rfl) ?_
        refine lv_iload hx hb dX12_make_162 (lv_at hl 1 rfl) ?_
        refine lv_aload_n hx hb dX12_make_164 rfl (lv_at hl 4 rfl) ?_
        refine va_get (D := D) (ci := 12) (v := .ref (q 34)) (C := RX12) (T := TX12) (N := 52) hx hb hts (fun _ h => List.mem_cons_of_mem _ (List.mem_append_right _ h)) hown hK hP 0 rfl rfl 34 (by decide) (hts (.fieldLink RX12 102 "TemplateForgeModel" "localIs" "[I") (List.mem_of_getElem? (i := 35) rfl)) (fun _ h9 => h9) rfl dX12_make_165 ?_
        refine lv_iload hx hb dX12_make_168 (lv_at hl 2 rfl) ?_
        have hin_9 := h.1
        have h := h.2
        refine va_iald hx hb hK hP 31 0 rfl rfl hin_9 dX12_make_170 ?_
        have hFc := zm_free hD hS hA
        refine va_callv (va_runV (As := [.int (S 7 ((60 * a1) + a2 : Int32).toNatClampNeg), .int (S 34 (S 5 ((60 * a1) + a2 : Int32).toNatClampNeg : Int32).toNatClampNeg)]) (rest := []) ⟨hx, hb, hml, hown, hts⟩ (zd_X12_knows l D cI cZ cP cF h0 q S (S 7 ((60 * a1) + a2 : Int32).toNatClampNeg) (S 34 (S 5 ((60 * a1) + a2 : Int32).toNatClampNeg : Int32).toNatClampNeg) H.size _ h) (cwV 2 hts zg_zd_X12_make_zd_X12_knows_201 rfl rfl rfl (by decide +kernel) ⟨Nat.le_of_ble_eq_true rfl, Nat.le_of_ble_eq_true rfl⟩) ⟨zBW, va_recv hK hP (ci := 12) (q0 := 0) rfl rfl, fun U hU hW => ⟨rfl, by rw [hU], by rw [hU]; exact hP, hE.warm hW, hD.weaken (fun _ _ _ _ => trivial)⟩⟩ rfl rfl hl.1 rfl (lv_room (Nat.le_of_ble_eq_true rfl)) dX12_make_171 ⟨Nat.le_of_ble_eq_true rfl, Nat.le_of_ble_eq_true rfl⟩) hS (fun q _ h => hFc q h) hFc (fun S10 t H locs ht hvm h hB hz1 hk1 hS => ?_)
        obtain ⟨hP, hD1⟩ := hB
        rw [ht] at hP
        have hD := hD1.weaken (fun k q _ hq => hFc q.1 hq)
        refine lv_goto (tgt := 585) hx hb dX12_make_174 (by decide) ?_
        exact W.vret hx hb hr (fun t ht hW => ⟨⟨S10, rfl, h, by rw [ht]; exact hP, hD⟩, hS.F ht⟩) hS.2.2 dX12_make_585
    · have h := h.2.2.2.1 h_in
      refine lv_tableIn (off := 147) (tgt := 193) hx hb dX12_make_46 (by rw [h_in]; decide) (by rw [h_in]; decide) (by rw [h_in]; decide) (by decide) ?_
      refine lv_aload_n hx hb dX12_make_193 rfl (lv_at hl 4 rfl) ?_
      refine va_get (D := D) (ci := 12) (v := .ref (q 33)) (C := RX12) (T := TX12) (N := 52) hx hb hts (fun _ h => List.mem_cons_of_mem _ (List.mem_append_right _ h)) hown hK hP 0 rfl rfl 33 (by decide) (hts (.fieldLink RX12 99 "TemplateForgeModel" "localKnown" "[Z") (List.mem_of_getElem? (i := 34) rfl)) (fun _ h9 => h9) rfl dX12_make_194 ?_
      refine lv_iload hx hb dX12_make_197 (lv_at hl 2 rfl) ?_
      refine lv_aload_n hx hb dX12_make_199 rfl (lv_at hl 4 rfl) ?_
      refine va_get (D := D) (ci := 12) (v := .ref (q 35)) (C := RX12) (T := TX12) (N := 52) hx hb hts (fun _ h => List.mem_cons_of_mem _ (List.mem_append_right _ h)) hown hK hP 0 rfl rfl 35 (by decide) (hts (.fieldLink RX12 105 "TemplateForgeModel" "placeKnown" "[Z") (List.mem_of_getElem? (i := 5) rfl)) (fun _ h9 => h9) rfl dX12_make_200 ?_
      refine lv_iload hx hb dX12_make_203 (lv_at hl 1 rfl) ?_
      refine lv_iconst (v := 1) hx hb dX12_make_205 (by decide) ?_
      refine lv_isub hx hb dX12_make_206 ?_
      have hin_11 := h.1
      have h := h.2
      refine va_zald hx hb hK hP 32 1 rfl rfl hin_11 dX12_make_207 ?_
      have hin_12 := h.1
      have h := h.2
      refine va_zast hx hb hK hP hD hS 30 1 rfl rfl hin_12 dX12_make_208 (fun H locs hP hD hS => ?_)
      obtain ⟨S12, eS12⟩ : ∃ z, z = ms S 33 (upd (S 33) (S 5 ((60 * a1) + a2 : Int32).toNatClampNeg : Int32).toNatClampNeg (vp_nar .boolean (S 35 ((S 7 ((60 * a1) + a2 : Int32).toNatClampNeg) - 1 : Int32).toNatClampNeg))) := ⟨_, rfl⟩
      have hP : va_P D vwCl (mW cI cZ h0 q S12) H := by rw [eS12]; exact hP
      have hD : va_D A (mW cI cZ h0 q S12) := by rw [eS12]; exact hD
      have h := h S12 eS12
      refine lv_aload_n hx hb dX12_make_209 rfl (lv_at hl 4 rfl) ?_
      refine va_get (D := D) (ci := 12) (v := .ref (q 35)) (C := RX12) (T := TX12) (N := 52) hx hb hts (fun _ h => List.mem_cons_of_mem _ (List.mem_append_right _ h)) hown hK hP 0 rfl rfl 35 (by decide) (hts (.fieldLink RX12 105 "TemplateForgeModel" "placeKnown" "[Z") (List.mem_of_getElem? (i := 5) rfl)) (fun _ h9 => h9) rfl dX12_make_210 ?_
      refine lv_iload hx hb dX12_make_213 (lv_at hl 1 rfl) ?_
      refine lv_iconst (v := 1) hx hb dX12_make_215 (by decide) ?_
      refine lv_isub hx hb dX12_make_216 ?_
      have hin_13 := h.1
      have h := h.2
      refine va_zald hx hb hK hP 32 1 rfl rfl hin_13 dX12_make_217 ?_
      refine lv_if_eq (tgt := 257) hx hb dX12_make_218 (by decide) (fun c_14 => ?_) (fun c_14 => ?_)
      · have h := h.1 c_14
        refine lv_aload_n hx hb dX12_make_257 rfl (lv_at hl 4 rfl) ?_
        refine lv_iconst (v := 1) hx hb dX12_make_258 (by decide) ?_
        refine lv_iload hx hb dX12_make_259 (lv_at hl 2 rfl) ?_
        refine lv_iload hx hb dX12_make_261 (lv_at hl 0 rfl) ?_
        refine lv_iconst (v := 0) hx hb dX12_make_263 (by decide) ?_
        have hFc := zm_free hD hS hA
        refine va_callv (va_runV (As := [.int 1, .int (S 5 ((60 * a1) + a2 : Int32).toNatClampNeg), .int (6 + (S 7 ((60 * a1) + a2 : Int32).toNatClampNeg)), .int 0]) (rest := []) ⟨hx, hb, hml, hown, hts⟩ (zd_X12_part l D cI cZ cP cF h0 q S12 1 (S 5 ((60 * a1) + a2 : Int32).toNatClampNeg) (6 + (S 7 ((60 * a1) + a2 : Int32).toNatClampNeg)) 0 H.size _ h) (cwV 4 hts zg_zd_X12_make_zd_X12_part_187 rfl rfl rfl (by decide +kernel) ⟨Nat.le_of_ble_eq_true rfl, Nat.le_of_ble_eq_true rfl⟩) ⟨zBW, va_recv hK hP (ci := 12) (q0 := 0) rfl rfl, fun U hU hW => ⟨rfl, by rw [hU], by rw [hU]; exact hP, hE.warm hW, hD.weaken (fun _ _ _ _ => trivial)⟩⟩ rfl rfl hl.1 rfl (lv_room (Nat.le_of_ble_eq_true rfl)) dX12_make_264 ⟨Nat.le_of_ble_eq_true rfl, Nat.le_of_ble_eq_true rfl⟩) hS (fun q _ h => hFc q h) hFc (fun S15 t H locs ht hvm h hB hz1 hk1 hS => ?_)
        obtain ⟨hP, hD1⟩ := hB
        rw [ht] at hP
        have hD := hD1.weaken (fun k q _ hq => hFc q.1 hq)
        refine lv_aload_n hx hb dX12_make_267 rfl (lv_at hl 4 rfl) ?_
        refine va_get (D := D) (ci := 12) (v := .ref (q 35)) (C := RX12) (T := TX12) (N := 52) hx hb hts (fun _ h => List.mem_cons_of_mem _ (List.mem_append_right _ h)) hown hK hP 0 rfl rfl 35 (by decide) (hts (.fieldLink RX12 105 "TemplateForgeModel" "placeKnown" "[Z") (List.mem_of_getElem? (i := 5) rfl)) (fun _ h9 => h9) rfl dX12_make_268 ?_
        refine lv_iload hx hb dX12_make_271 (lv_at hl 1 rfl) ?_
        refine lv_iconst (v := 1) hx hb dX12_make_273 (by decide) ?_
        refine lv_isub hx hb dX12_make_274 ?_
        refine lv_iconst (v := 0) hx hb dX12_make_275 (by decide) ?_
        have hin_16 := h.1
        have h := h.2
        refine va_zast hx hb hK hP hD hS 32 1 rfl rfl hin_16 dX12_make_276 (fun H locs hP hD hS => ?_)
        obtain ⟨S16, eS16⟩ : ∃ z, z = ms S15 35 (upd (S15 35) ((S 7 ((60 * a1) + a2 : Int32).toNatClampNeg) - 1 : Int32).toNatClampNeg (vp_nar .boolean 0)) := ⟨_, rfl⟩
        have hP : va_P D vwCl (mW cI cZ h0 q S16) H := by rw [eS16]; exact hP
        have hD : va_D A (mW cI cZ h0 q S16) := by rw [eS16]; exact hD
        have h := h S16 eS16
        refine lv_goto (tgt := 585) hx hb dX12_make_277 (by decide) ?_
        exact W.vret hx hb hr (fun t ht hW => ⟨⟨S16, rfl, h, by rw [ht]; exact hP, hD⟩, hS.F ht⟩) hS.2.2 dX12_make_585
      · have h := h.2 c_14
        refine lv_aload_n hx hb dX12_make_221 rfl (lv_at hl 4 rfl) ?_
        refine va_get (D := D) (ci := 12) (v := .ref (q 34)) (C := RX12) (T := TX12) (N := 52) hx hb hts (fun _ h => List.mem_cons_of_mem _ (List.mem_append_right _ h)) hown hK hP 0 rfl rfl 34 (by decide) (hts (.fieldLink RX12 102 "TemplateForgeModel" "localIs" "[I") (List.mem_of_getElem? (i := 35) rfl)) (fun _ h9 => h9) rfl dX12_make_222 ?_
        refine lv_iload hx hb dX12_make_225 (lv_at hl 2 rfl) ?_
        refine lv_aload_n hx hb dX12_make_227 rfl (lv_at hl 4 rfl) ?_
        refine va_get (D := D) (ci := 12) (v := .ref (q 36)) (C := RX12) (T := TX12) (N := 52) hx hb hts (fun _ h => List.mem_cons_of_mem _ (List.mem_append_right _ h)) hown hK hP 0 rfl rfl 36 (by decide) (hts (.fieldLink RX12 108 "TemplateForgeModel" "placeIs" "[I") (List.mem_of_getElem? (i := 7) rfl)) (fun _ h9 => h9) rfl dX12_make_228 ?_
        refine lv_iload hx hb dX12_make_231 (lv_at hl 1 rfl) ?_
        refine lv_iconst (v := 1) hx hb dX12_make_233 (by decide) ?_
        refine lv_isub hx hb dX12_make_234 ?_
        have hin_17 := h.1
        have h := h.2
        refine va_iald hx hb hK hP 33 0 rfl rfl hin_17 dX12_make_235 ?_
        have hin_18 := h.1
        have h := h.2
        refine va_iast hx hb hK hP hD hS 31 0 rfl rfl hin_18 dX12_make_236 (fun H locs hP hD hS => ?_)
        obtain ⟨S18, eS18⟩ : ∃ z, z = ms S12 34 (upd (S12 34) (S 5 ((60 * a1) + a2 : Int32).toNatClampNeg : Int32).toNatClampNeg (S12 36 ((S 7 ((60 * a1) + a2 : Int32).toNatClampNeg) - 1 : Int32).toNatClampNeg)) := ⟨_, rfl⟩
        have hP : va_P D vwCl (mW cI cZ h0 q S18) H := by rw [eS18]; exact hP
        have hD : va_D A (mW cI cZ h0 q S18) := by rw [eS18]; exact hD
        have h := h S18 eS18
        refine lv_aload_n hx hb dX12_make_237 rfl (lv_at hl 4 rfl) ?_
        refine lv_iconst (v := 0) hx hb dX12_make_238 (by decide) ?_
        refine lv_iload hx hb dX12_make_239 (lv_at hl 2 rfl) ?_
        refine lv_aload_n hx hb dX12_make_241 rfl (lv_at hl 4 rfl) ?_
        refine va_get (D := D) (ci := 12) (v := .ref (q 36)) (C := RX12) (T := TX12) (N := 52) hx hb hts (fun _ h => List.mem_cons_of_mem _ (List.mem_append_right _ h)) hown hK hP 0 rfl rfl 36 (by decide) (hts (.fieldLink RX12 108 "TemplateForgeModel" "placeIs" "[I") (List.mem_of_getElem? (i := 7) rfl)) (fun _ h9 => h9) rfl dX12_make_242 ?_
        refine lv_iload hx hb dX12_make_245 (lv_at hl 1 rfl) ?_
        refine lv_iconst (v := 1) hx hb dX12_make_247 (by decide) ?_
        refine lv_isub hx hb dX12_make_248 ?_
        have hin_19 := h.1
        have h := h.2
        refine va_iald hx hb hK hP 33 0 rfl rfl hin_19 dX12_make_249 ?_
        refine lv_iconst (v := 0) hx hb dX12_make_250 (by decide) ?_
        have hFc := zm_free hD hS hA
        refine va_callv (va_runV (As := [.int 0, .int (S 5 ((60 * a1) + a2 : Int32).toNatClampNeg), .int (S18 36 ((S 7 ((60 * a1) + a2 : Int32).toNatClampNeg) - 1 : Int32).toNatClampNeg), .int 0]) (rest := []) ⟨hx, hb, hml, hown, hts⟩ (zd_X12_part l D cI cZ cP cF h0 q S18 0 (S 5 ((60 * a1) + a2 : Int32).toNatClampNeg) (S18 36 ((S 7 ((60 * a1) + a2 : Int32).toNatClampNeg) - 1 : Int32).toNatClampNeg) 0 H.size _ h) (cwV 4 hts zg_zd_X12_make_zd_X12_part_187 rfl rfl rfl (by decide +kernel) ⟨Nat.le_of_ble_eq_true rfl, Nat.le_of_ble_eq_true rfl⟩) ⟨zBW, va_recv hK hP (ci := 12) (q0 := 0) rfl rfl, fun U hU hW => ⟨rfl, by rw [hU], by rw [hU]; exact hP, hE.warm hW, hD.weaken (fun _ _ _ _ => trivial)⟩⟩ rfl rfl hl.1 rfl (lv_room (Nat.le_of_ble_eq_true rfl)) dX12_make_251 ⟨Nat.le_of_ble_eq_true rfl, Nat.le_of_ble_eq_true rfl⟩) hS (fun q _ h => hFc q h) hFc (fun S20 t H locs ht hvm h hB hz1 hk1 hS => ?_)
        obtain ⟨hP, hD1⟩ := hB
        rw [ht] at hP
        have hD := hD1.weaken (fun k q _ hq => hFc q.1 hq)
        refine lv_goto (tgt := 267) hx hb dX12_make_254 (by decide) ?_
        refine lv_aload_n hx hb dX12_make_267 rfl (lv_at hl 4 rfl) ?_
        refine va_get (D := D) (ci := 12) (v := .ref (q 35)) (C := RX12) (T := TX12) (N := 52) hx hb hts (fun _ h => List.mem_cons_of_mem _ (List.mem_append_right _ h)) hown hK hP 0 rfl rfl 35 (by decide) (hts (.fieldLink RX12 105 "TemplateForgeModel" "placeKnown" "[Z") (List.mem_of_getElem? (i := 5) rfl)) (fun _ h9 => h9) rfl dX12_make_268 ?_
        refine lv_iload hx hb dX12_make_271 (lv_at hl 1 rfl) ?_
        refine lv_iconst (v := 1) hx hb dX12_make_273 (by decide) ?_
        refine lv_isub hx hb dX12_make_274 ?_
        refine lv_iconst (v := 0) hx hb dX12_make_275 (by decide) ?_
        have hin_21 := h.1
        have h := h.2
        refine va_zast hx hb hK hP hD hS 32 1 rfl rfl hin_21 dX12_make_276 (fun H locs hP hD hS => ?_)
        obtain ⟨S21, eS21⟩ : ∃ z, z = ms S20 35 (upd (S20 35) ((S 7 ((60 * a1) + a2 : Int32).toNatClampNeg) - 1 : Int32).toNatClampNeg (vp_nar .boolean 0)) := ⟨_, rfl⟩
        have hP : va_P D vwCl (mW cI cZ h0 q S21) H := by rw [eS21]; exact hP
        have hD : va_D A (mW cI cZ h0 q S21) := by rw [eS21]; exact hD
        have h := h S21 eS21
        refine lv_goto (tgt := 585) hx hb dX12_make_277 (by decide) ?_
        exact W.vret hx hb hr (fun t ht hW => ⟨⟨S21, rfl, h, by rw [ht]; exact hP, hD⟩, hS.F ht⟩) hS.2.2 dX12_make_585
    · have h := h.2.2.2.2.1 h_in
      refine lv_tableIn (off := 532) (tgt := 578) hx hb dX12_make_46 (by rw [h_in]; decide) (by rw [h_in]; decide) (by rw [h_in]; decide) (by decide) ?_
      refine lv_aload_n hx hb dX12_make_578 rfl (lv_at hl 4 rfl) ?_
      refine lv_iload_n hx hb dX12_make_579 rfl (lv_at hl 3 rfl) ?_
      refine lv_iload hx hb dX12_make_580 (lv_at hl 1 rfl) ?_
      have hFc := zm_free hD hS hA
      refine va_callv (va_runV (As := [.int (S 4 ((60 * a1) + a2 : Int32).toNatClampNeg), .int (S 7 ((60 * a1) + a2 : Int32).toNatClampNeg)]) (rest := []) ⟨hx, hb, hml, hown, hts⟩ (zd_X12_makeTwo l D cI cZ cP cF h0 q S (S 4 ((60 * a1) + a2 : Int32).toNatClampNeg) (S 7 ((60 * a1) + a2 : Int32).toNatClampNeg) H.size _ h) (cwV 2 hts zg_zd_X12_make_zd_X12_makeTwo_211 rfl rfl rfl (by decide +kernel) ⟨Nat.le_of_ble_eq_true rfl, Nat.le_of_ble_eq_true rfl⟩) ⟨zBW, va_recv hK hP (ci := 12) (q0 := 0) rfl rfl, fun U hU hW => ⟨rfl, by rw [hU], by rw [hU]; exact hP, hE.warm hW, hD.weaken (fun _ _ _ _ => trivial)⟩⟩ rfl rfl hl.1 rfl (lv_room (Nat.le_of_ble_eq_true rfl)) dX12_make_582 ⟨Nat.le_of_ble_eq_true rfl, Nat.le_of_ble_eq_true rfl⟩) hS (fun q _ h => hFc q h) hFc (fun S22 t H locs ht hvm h hB hz1 hk1 hS => ?_)
      obtain ⟨hP, hD1⟩ := hB
      rw [ht] at hP
      have hD := hD1.weaken (fun k q _ hq => hFc q.1 hq)
      exact W.vret hx hb hr (fun t ht hW => ⟨⟨S22, rfl, h, by rw [ht]; exact hP, hD⟩, hS.F ht⟩) hS.2.2 dX12_make_585
    · have h := h.2.2.2.2.2.1 h_in
      refine lv_tableIn (off := 532) (tgt := 578) hx hb dX12_make_46 (by rw [h_in]; decide) (by rw [h_in]; decide) (by rw [h_in]; decide) (by decide) ?_
      refine lv_aload_n hx hb dX12_make_578 rfl (lv_at hl 4 rfl) ?_
      refine lv_iload_n hx hb dX12_make_579 rfl (lv_at hl 3 rfl) ?_
      refine lv_iload hx hb dX12_make_580 (lv_at hl 1 rfl) ?_
      have hFc := zm_free hD hS hA
      refine va_callv (va_runV (As := [.int (S 4 ((60 * a1) + a2 : Int32).toNatClampNeg), .int (S 7 ((60 * a1) + a2 : Int32).toNatClampNeg)]) (rest := []) ⟨hx, hb, hml, hown, hts⟩ (zd_X12_makeTwo l D cI cZ cP cF h0 q S (S 4 ((60 * a1) + a2 : Int32).toNatClampNeg) (S 7 ((60 * a1) + a2 : Int32).toNatClampNeg) H.size _ h) (cwV 2 hts zg_zd_X12_make_zd_X12_makeTwo_211 rfl rfl rfl (by decide +kernel) ⟨Nat.le_of_ble_eq_true rfl, Nat.le_of_ble_eq_true rfl⟩) ⟨zBW, va_recv hK hP (ci := 12) (q0 := 0) rfl rfl, fun U hU hW => ⟨rfl, by rw [hU], by rw [hU]; exact hP, hE.warm hW, hD.weaken (fun _ _ _ _ => trivial)⟩⟩ rfl rfl hl.1 rfl (lv_room (Nat.le_of_ble_eq_true rfl)) dX12_make_582 ⟨Nat.le_of_ble_eq_true rfl, Nat.le_of_ble_eq_true rfl⟩) hS (fun q _ h => hFc q h) hFc (fun S23 t H locs ht hvm h hB hz1 hk1 hS => ?_)
      obtain ⟨hP, hD1⟩ := hB
      rw [ht] at hP
      have hD := hD1.weaken (fun k q _ hq => hFc q.1 hq)
      exact W.vret hx hb hr (fun t ht hW => ⟨⟨S23, rfl, h, by rw [ht]; exact hP, hD⟩, hS.F ht⟩) hS.2.2 dX12_make_585
    · have h := h.2.2.2.2.2.2.1 h_in
      refine lv_tableIn (off := 532) (tgt := 578) hx hb dX12_make_46 (by rw [h_in]; decide) (by rw [h_in]; decide) (by rw [h_in]; decide) (by decide) ?_
      refine lv_aload_n hx hb dX12_make_578 rfl (lv_at hl 4 rfl) ?_
      refine lv_iload_n hx hb dX12_make_579 rfl (lv_at hl 3 rfl) ?_
      refine lv_iload hx hb dX12_make_580 (lv_at hl 1 rfl) ?_
      have hFc := zm_free hD hS hA
      refine va_callv (va_runV (As := [.int (S 4 ((60 * a1) + a2 : Int32).toNatClampNeg), .int (S 7 ((60 * a1) + a2 : Int32).toNatClampNeg)]) (rest := []) ⟨hx, hb, hml, hown, hts⟩ (zd_X12_makeTwo l D cI cZ cP cF h0 q S (S 4 ((60 * a1) + a2 : Int32).toNatClampNeg) (S 7 ((60 * a1) + a2 : Int32).toNatClampNeg) H.size _ h) (cwV 2 hts zg_zd_X12_make_zd_X12_makeTwo_211 rfl rfl rfl (by decide +kernel) ⟨Nat.le_of_ble_eq_true rfl, Nat.le_of_ble_eq_true rfl⟩) ⟨zBW, va_recv hK hP (ci := 12) (q0 := 0) rfl rfl, fun U hU hW => ⟨rfl, by rw [hU], by rw [hU]; exact hP, hE.warm hW, hD.weaken (fun _ _ _ _ => trivial)⟩⟩ rfl rfl hl.1 rfl (lv_room (Nat.le_of_ble_eq_true rfl)) dX12_make_582 ⟨Nat.le_of_ble_eq_true rfl, Nat.le_of_ble_eq_true rfl⟩) hS (fun q _ h => hFc q h) hFc (fun S24 t H locs ht hvm h hB hz1 hk1 hS => ?_)
      obtain ⟨hP, hD1⟩ := hB
      rw [ht] at hP
      have hD := hD1.weaken (fun k q _ hq => hFc q.1 hq)
      exact W.vret hx hb hr (fun t ht hW => ⟨⟨S24, rfl, h, by rw [ht]; exact hP, hD⟩, hS.F ht⟩) hS.2.2 dX12_make_585
    · have h := h.2.2.2.2.2.2.2.1 h_in
      refine lv_tableIn (off := 532) (tgt := 578) hx hb dX12_make_46 (by rw [h_in]; decide) (by rw [h_in]; decide) (by rw [h_in]; decide) (by decide) ?_
      refine lv_aload_n hx hb dX12_make_578 rfl (lv_at hl 4 rfl) ?_
      refine lv_iload_n hx hb dX12_make_579 rfl (lv_at hl 3 rfl) ?_
      refine lv_iload hx hb dX12_make_580 (lv_at hl 1 rfl) ?_
      have hFc := zm_free hD hS hA
      refine va_callv (va_runV (As := [.int (S 4 ((60 * a1) + a2 : Int32).toNatClampNeg), .int (S 7 ((60 * a1) + a2 : Int32).toNatClampNeg)]) (rest := []) ⟨hx, hb, hml, hown, hts⟩ (zd_X12_makeTwo l D cI cZ cP cF h0 q S (S 4 ((60 * a1) + a2 : Int32).toNatClampNeg) (S 7 ((60 * a1) + a2 : Int32).toNatClampNeg) H.size _ h) (cwV 2 hts zg_zd_X12_make_zd_X12_makeTwo_211 rfl rfl rfl (by decide +kernel) ⟨Nat.le_of_ble_eq_true rfl, Nat.le_of_ble_eq_true rfl⟩) ⟨zBW, va_recv hK hP (ci := 12) (q0 := 0) rfl rfl, fun U hU hW => ⟨rfl, by rw [hU], by rw [hU]; exact hP, hE.warm hW, hD.weaken (fun _ _ _ _ => trivial)⟩⟩ rfl rfl hl.1 rfl (lv_room (Nat.le_of_ble_eq_true rfl)) dX12_make_582 ⟨Nat.le_of_ble_eq_true rfl, Nat.le_of_ble_eq_true rfl⟩) hS (fun q _ h => hFc q h) hFc (fun S25 t H locs ht hvm h hB hz1 hk1 hS => ?_)
      obtain ⟨hP, hD1⟩ := hB
      rw [ht] at hP
      have hD := hD1.weaken (fun k q _ hq => hFc q.1 hq)
      exact W.vret hx hb hr (fun t ht hW => ⟨⟨S25, rfl, h, by rw [ht]; exact hP, hD⟩, hS.F ht⟩) hS.2.2 dX12_make_585
    · have h := h.2.2.2.2.2.2.2.2.1 h_in
      refine lv_tableIn (off := 532) (tgt := 578) hx hb dX12_make_46 (by rw [h_in]; decide) (by rw [h_in]; decide) (by rw [h_in]; decide) (by decide) ?_
      refine lv_aload_n hx hb dX12_make_578 rfl (lv_at hl 4 rfl) ?_
      refine lv_iload_n hx hb dX12_make_579 rfl (lv_at hl 3 rfl) ?_
      refine lv_iload hx hb dX12_make_580 (lv_at hl 1 rfl) ?_
      have hFc := zm_free hD hS hA
      refine va_callv (va_runV (As := [.int (S 4 ((60 * a1) + a2 : Int32).toNatClampNeg), .int (S 7 ((60 * a1) + a2 : Int32).toNatClampNeg)]) (rest := []) ⟨hx, hb, hml, hown, hts⟩ (zd_X12_makeTwo l D cI cZ cP cF h0 q S (S 4 ((60 * a1) + a2 : Int32).toNatClampNeg) (S 7 ((60 * a1) + a2 : Int32).toNatClampNeg) H.size _ h) (cwV 2 hts zg_zd_X12_make_zd_X12_makeTwo_211 rfl rfl rfl (by decide +kernel) ⟨Nat.le_of_ble_eq_true rfl, Nat.le_of_ble_eq_true rfl⟩) ⟨zBW, va_recv hK hP (ci := 12) (q0 := 0) rfl rfl, fun U hU hW => ⟨rfl, by rw [hU], by rw [hU]; exact hP, hE.warm hW, hD.weaken (fun _ _ _ _ => trivial)⟩⟩ rfl rfl hl.1 rfl (lv_room (Nat.le_of_ble_eq_true rfl)) dX12_make_582 ⟨Nat.le_of_ble_eq_true rfl, Nat.le_of_ble_eq_true rfl⟩) hS (fun q _ h => hFc q h) hFc (fun S26 t H locs ht hvm h hB hz1 hk1 hS => ?_)
      obtain ⟨hP, hD1⟩ := hB
      rw [ht] at hP
      have hD := hD1.weaken (fun k q _ hq => hFc q.1 hq)
      exact W.vret hx hb hr (fun t ht hW => ⟨⟨S26, rfl, h, by rw [ht]; exact hP, hD⟩, hS.F ht⟩) hS.2.2 dX12_make_585
    · have h := h.2.2.2.2.2.2.2.2.2.1 h_in
      refine lv_tableIn (off := 532) (tgt := 578) hx hb dX12_make_46 (by rw [h_in]; decide) (by rw [h_in]; decide) (by rw [h_in]; decide) (by decide) ?_
      refine lv_aload_n hx hb dX12_make_578 rfl (lv_at hl 4 rfl) ?_
      refine lv_iload_n hx hb dX12_make_579 rfl (lv_at hl 3 rfl) ?_
      refine lv_iload hx hb dX12_make_580 (lv_at hl 1 rfl) ?_
      have hFc := zm_free hD hS hA
      refine va_callv (va_runV (As := [.int (S 4 ((60 * a1) + a2 : Int32).toNatClampNeg), .int (S 7 ((60 * a1) + a2 : Int32).toNatClampNeg)]) (rest := []) ⟨hx, hb, hml, hown, hts⟩ (zd_X12_makeTwo l D cI cZ cP cF h0 q S (S 4 ((60 * a1) + a2 : Int32).toNatClampNeg) (S 7 ((60 * a1) + a2 : Int32).toNatClampNeg) H.size _ h) (cwV 2 hts zg_zd_X12_make_zd_X12_makeTwo_211 rfl rfl rfl (by decide +kernel) ⟨Nat.le_of_ble_eq_true rfl, Nat.le_of_ble_eq_true rfl⟩) ⟨zBW, va_recv hK hP (ci := 12) (q0 := 0) rfl rfl, fun U hU hW => ⟨rfl, by rw [hU], by rw [hU]; exact hP, hE.warm hW, hD.weaken (fun _ _ _ _ => trivial)⟩⟩ rfl rfl hl.1 rfl (lv_room (Nat.le_of_ble_eq_true rfl)) dX12_make_582 ⟨Nat.le_of_ble_eq_true rfl, Nat.le_of_ble_eq_true rfl⟩) hS (fun q _ h => hFc q h) hFc (fun S27 t H locs ht hvm h hB hz1 hk1 hS => ?_)
      obtain ⟨hP, hD1⟩ := hB
      rw [ht] at hP
      have hD := hD1.weaken (fun k q _ hq => hFc q.1 hq)
      exact W.vret hx hb hr (fun t ht hW => ⟨⟨S27, rfl, h, by rw [ht]; exact hP, hD⟩, hS.F ht⟩) hS.2.2 dX12_make_585
    · have h := h.2.2.2.2.2.2.2.2.2.2.1 h_in
      refine lv_tableIn (off := 234) (tgt := 280) hx hb dX12_make_46 (by rw [h_in]; decide) (by rw [h_in]; decide) (by rw [h_in]; decide) (by decide) ?_
      refine lv_aload_n hx hb dX12_make_280 rfl (lv_at hl 4 rfl) ?_
      refine lv_iload hx hb dX12_make_281 (lv_at hl 1 rfl) ?_
      have hFc := zm_free hD hS hA
      refine va_callv (va_runV (As := [.int (S 7 ((60 * a1) + a2 : Int32).toNatClampNeg)]) (rest := []) ⟨hx, hb, hml, hown, hts⟩ (zd_X12_layAll l D cI cZ cP cF h0 q S (S 7 ((60 * a1) + a2 : Int32).toNatClampNeg) H.size _ h) (cwV 1 hts zg_zd_X12_make_zd_X12_layAll_198 rfl rfl rfl (by decide +kernel) ⟨Nat.le_of_ble_eq_true rfl, Nat.le_of_ble_eq_true rfl⟩) ⟨zBW, va_recv hK hP (ci := 12) (q0 := 0) rfl rfl, fun U hU hW => ⟨rfl, by rw [hU], by rw [hU]; exact hP, hE.warm hW, hD.weaken (fun _ _ _ _ => trivial)⟩⟩ rfl rfl hl.1 rfl (lv_room (Nat.le_of_ble_eq_true rfl)) dX12_make_283 ⟨Nat.le_of_ble_eq_true rfl, Nat.le_of_ble_eq_true rfl⟩) hS (fun q _ h => hFc q h) hFc (fun S28 t H locs ht hvm h hB hz1 hk1 hS => ?_)
      obtain ⟨hP, hD1⟩ := hB
      rw [ht] at hP
      have hD := hD1.weaken (fun k q _ hq => hFc q.1 hq)
      refine lv_aload_n hx hb dX12_make_286 rfl (lv_at hl 4 rfl) ?_
      refine lv_bipush (v := 8) hx hb dX12_make_287 (by decide) ?_
      refine lv_iload hx hb dX12_make_289 (lv_at hl 2 rfl) ?_
      refine lv_iconst (v := 0) hx hb dX12_make_291 (by decide) ?_
      refine lv_iconst (v := 0) hx hb dX12_make_292 (by decide) ?_
      have hFc := zm_free hD hS hA
      refine va_callv (va_runV (As := [.int 8, .int (S 5 ((60 * a1) + a2 : Int32).toNatClampNeg), .int 0, .int 0]) (rest := []) ⟨hx, hb, hml, hown, hts⟩ (zd_X12_part l D cI cZ cP cF h0 q S28 8 (S 5 ((60 * a1) + a2 : Int32).toNatClampNeg) 0 0 H.size _ h) (cwV 4 hts zg_zd_X12_make_zd_X12_part_187 rfl rfl rfl (by decide +kernel) ⟨Nat.le_of_ble_eq_true rfl, Nat.le_of_ble_eq_true rfl⟩) ⟨zBW, va_recv hK hP (ci := 12) (q0 := 0) rfl rfl, fun U hU hW => ⟨rfl, by rw [hU], by rw [hU]; exact hP, hE.warm hW, hD.weaken (fun _ _ _ _ => trivial)⟩⟩ rfl rfl hl.1 rfl (lv_room (Nat.le_of_ble_eq_true rfl)) dX12_make_293 ⟨Nat.le_of_ble_eq_true rfl, Nat.le_of_ble_eq_true rfl⟩) hS (fun q _ h => hFc q h) hFc (fun S29 t H locs ht hvm h hB hz1 hk1 hS => ?_)
      obtain ⟨hP, hD1⟩ := hB
      rw [ht] at hP
      have hD := hD1.weaken (fun k q _ hq => hFc q.1 hq)
      refine lv_goto (tgt := 585) hx hb dX12_make_296 (by decide) ?_
      exact W.vret hx hb hr (fun t ht hW => ⟨⟨S29, rfl, h, by rw [ht]; exact hP, hD⟩, hS.F ht⟩) hS.2.2 dX12_make_585
    · have h := h.2.2.2.2.2.2.2.2.2.2.2.1 h_in
      refine lv_tableIn (off := 253) (tgt := 299) hx hb dX12_make_46 (by rw [h_in]; decide) (by rw [h_in]; decide) (by rw [h_in]; decide) (by decide) ?_
      refine lv_aload_n hx hb dX12_make_299 rfl (lv_at hl 4 rfl) ?_
      refine lv_iload hx hb dX12_make_300 (lv_at hl 2 rfl) ?_
      refine lv_iload hx hb dX12_make_302 (lv_at hl 1 rfl) ?_
      have hFc := zm_free hD hS hA
      refine va_callv (va_runV (As := [.int (S 5 ((60 * a1) + a2 : Int32).toNatClampNeg), .int (S 7 ((60 * a1) + a2 : Int32).toNatClampNeg)]) (rest := []) ⟨hx, hb, hml, hown, hts⟩ (zd_X12_makeWhen l D cI cZ cP cF h0 q S (S 5 ((60 * a1) + a2 : Int32).toNatClampNeg) (S 7 ((60 * a1) + a2 : Int32).toNatClampNeg) H.size _ h) (cwV 2 hts zg_zd_X12_make_zd_X12_makeWhen_205 rfl rfl rfl (by decide +kernel) ⟨Nat.le_of_ble_eq_true rfl, Nat.le_of_ble_eq_true rfl⟩) ⟨zBW, va_recv hK hP (ci := 12) (q0 := 0) rfl rfl, fun U hU hW => ⟨rfl, by rw [hU], by rw [hU]; exact hP, hE.warm hW, hD.weaken (fun _ _ _ _ => trivial)⟩⟩ rfl rfl hl.1 rfl (lv_room (Nat.le_of_ble_eq_true rfl)) dX12_make_304 ⟨Nat.le_of_ble_eq_true rfl, Nat.le_of_ble_eq_true rfl⟩) hS (fun q _ h => hFc q h) hFc (fun S30 t H locs ht hvm h hB hz1 hk1 hS => ?_)
      obtain ⟨hP, hD1⟩ := hB
      rw [ht] at hP
      have hD := hD1.weaken (fun k q _ hq => hFc q.1 hq)
      refine lv_goto (tgt := 585) hx hb dX12_make_307 (by decide) ?_
      exact W.vret hx hb hr (fun t ht hW => ⟨⟨S30, rfl, h, by rw [ht]; exact hP, hD⟩, hS.F ht⟩) hS.2.2 dX12_make_585
    · have h := h.2.2.2.2.2.2.2.2.2.2.2.2.1 h_in
      refine lv_tableIn (off := 264) (tgt := 310) hx hb dX12_make_46 (by rw [h_in]; decide) (by rw [h_in]; decide) (by rw [h_in]; decide) (by decide) ?_
      refine lv_aload_n hx hb dX12_make_310 rfl (lv_at hl 4 rfl) ?_
      refine lv_iload hx hb dX12_make_311 (lv_at hl 1 rfl) ?_
      have hFc := zm_free hD hS hA
      refine va_callv (va_runV (As := [.int (S 7 ((60 * a1) + a2 : Int32).toNatClampNeg)]) (rest := []) ⟨hx, hb, hml, hown, hts⟩ (zd_X12_layAll l D cI cZ cP cF h0 q S (S 7 ((60 * a1) + a2 : Int32).toNatClampNeg) H.size _ h) (cwV 1 hts zg_zd_X12_make_zd_X12_layAll_198 rfl rfl rfl (by decide +kernel) ⟨Nat.le_of_ble_eq_true rfl, Nat.le_of_ble_eq_true rfl⟩) ⟨zBW, va_recv hK hP (ci := 12) (q0 := 0) rfl rfl, fun U hU hW => ⟨rfl, by rw [hU], by rw [hU]; exact hP, hE.warm hW, hD.weaken (fun _ _ _ _ => trivial)⟩⟩ rfl rfl hl.1 rfl (lv_room (Nat.le_of_ble_eq_true rfl)) dX12_make_313 ⟨Nat.le_of_ble_eq_true rfl, Nat.le_of_ble_eq_true rfl⟩) hS (fun q _ h => hFc q h) hFc (fun S31 t H locs ht hvm h hB hz1 hk1 hS => ?_)
      obtain ⟨hP, hD1⟩ := hB
      rw [ht] at hP
      have hD := hD1.weaken (fun k q _ hq => hFc q.1 hq)
      refine lv_aload_n hx hb dX12_make_316 rfl (lv_at hl 4 rfl) ?_
      refine lv_bipush (v := 10) hx hb dX12_make_317 (by decide) ?_
      refine lv_bipush (v := 7) hx hb dX12_make_319 (by decide) ?_
      refine lv_iload hx hb dX12_make_321 (lv_at hl 1 rfl) ?_
      refine lv_iadd hx hb dX12_make_323 ?_
      refine lv_aload_n hx hb dX12_make_324 rfl (lv_at hl 4 rfl) ?_
      refine va_get (D := D) (ci := 12) (v := .ref (q 1)) (C := RX12) (T := TX12) (N := 52) hx hb hts (fun _ h => List.mem_cons_of_mem _ (List.mem_append_right _ h)) hown hK hP 0 rfl rfl 1 (by decide) (hts (.fieldLink RX12 7 "TemplateForgeModel" "args" "[I") (List.mem_of_getElem? (i := 44) rfl)) (fun _ h9 => h9) rfl dX12_make_325 ?_
      refine lv_iload hx hb dX12_make_328 (lv_at hl 2 rfl) ?_
      have hin_32 := h.1
      have h := h.2
      refine va_iald hx hb hK hP 1 0 rfl rfl hin_32 dX12_make_330 ?_
      refine lv_isub hx hb dX12_make_331 ?_
      refine lv_iload hx hb dX12_make_332 (lv_at hl 2 rfl) ?_
      refine lv_iconst (v := 0) hx hb dX12_make_334 (by decide) ?_
      have hFc := zm_free hD hS hA
      refine va_callv (va_runV (As := [.int 10, .int ((7 + (S 7 ((60 * a1) + a2 : Int32).toNatClampNeg)) - (S31 1 (S 5 ((60 * a1) + a2 : Int32).toNatClampNeg : Int32).toNatClampNeg)), .int (S 5 ((60 * a1) + a2 : Int32).toNatClampNeg), .int 0]) (rest := []) ⟨hx, hb, hml, hown, hts⟩ (zd_X12_part l D cI cZ cP cF h0 q S31 10 ((7 + (S 7 ((60 * a1) + a2 : Int32).toNatClampNeg)) - (S31 1 (S 5 ((60 * a1) + a2 : Int32).toNatClampNeg : Int32).toNatClampNeg)) (S 5 ((60 * a1) + a2 : Int32).toNatClampNeg) 0 H.size _ h) (cwV 4 hts zg_zd_X12_make_zd_X12_part_187 rfl rfl rfl (by decide +kernel) ⟨Nat.le_of_ble_eq_true rfl, Nat.le_of_ble_eq_true rfl⟩) ⟨zBW, va_recv hK hP (ci := 12) (q0 := 0) rfl rfl, fun U hU hW => ⟨rfl, by rw [hU], by rw [hU]; exact hP, hE.warm hW, hD.weaken (fun _ _ _ _ => trivial)⟩⟩ rfl rfl hl.1 rfl (lv_room (Nat.le_of_ble_eq_true rfl)) dX12_make_335 ⟨Nat.le_of_ble_eq_true rfl, Nat.le_of_ble_eq_true rfl⟩) hS (fun q _ h => hFc q h) hFc (fun S33 t H locs ht hvm h hB hz1 hk1 hS => ?_)
      obtain ⟨hP, hD1⟩ := hB
      rw [ht] at hP
      have hD := hD1.weaken (fun k q _ hq => hFc q.1 hq)
      refine lv_aload_n hx hb dX12_make_338 rfl (lv_at hl 4 rfl) ?_
      refine lv_iload_n hx hb dX12_make_339 rfl (lv_at hl 5 rfl) ?_
      have hFc := zm_free hD hS hA
      refine va_callv (va_runV (As := [.int a1]) (rest := []) ⟨hx, hb, hml, hown, hts⟩ (zd_X12_fieldGuards l D cI cZ cP cF h0 q S33 a1 H.size _ h) (cwV 1 hts zg_zd_X12_make_zd_X12_fieldGuards_208 rfl rfl rfl (by decide +kernel) ⟨Nat.le_of_ble_eq_true rfl, Nat.le_of_ble_eq_true rfl⟩) ⟨zBW, va_recv hK hP (ci := 12) (q0 := 0) rfl rfl, fun U hU hW => ⟨rfl, by rw [hU], by rw [hU]; exact hP, hE.warm hW, hD.weaken (fun _ _ _ _ => trivial)⟩⟩ rfl rfl hl.1 rfl (lv_room (Nat.le_of_ble_eq_true rfl)) dX12_make_340 ⟨Nat.le_of_ble_eq_true rfl, Nat.le_of_ble_eq_true rfl⟩) hS (fun q _ h => hFc q h) hFc (fun S34 t H locs ht hvm h hB hz1 hk1 hS => ?_)
      obtain ⟨hP, hD1⟩ := hB
      rw [ht] at hP
      have hD := hD1.weaken (fun k q _ hq => hFc q.1 hq)
      refine lv_goto (tgt := 585) hx hb dX12_make_343 (by decide) ?_
      exact W.vret hx hb hr (fun t ht hW => ⟨⟨S34, rfl, h, by rw [ht]; exact hP, hD⟩, hS.F ht⟩) hS.2.2 dX12_make_585
    · have h := h.2.2.2.2.2.2.2.2.2.2.2.2.2.1 h_in
      refine lv_tableIn (off := 300) (tgt := 346) hx hb dX12_make_46 (by rw [h_in]; decide) (by rw [h_in]; decide) (by rw [h_in]; decide) (by decide) ?_
      refine lv_aload_n hx hb dX12_make_346 rfl (lv_at hl 4 rfl) ?_
      refine lv_iload hx hb dX12_make_347 (lv_at hl 1 rfl) ?_
      refine lv_iconst (v := 1) hx hb dX12_make_349 (by decide) ?_
      refine lv_isub hx hb dX12_make_350 ?_
      have hFc := zm_free hD hS hA
      refine va_callv (va_runV (As := [.int ((S 7 ((60 * a1) + a2 : Int32).toNatClampNeg) - 1)]) (rest := []) ⟨hx, hb, hml, hown, hts⟩ (zd_X12_layOne l D cI cZ cP cF h0 q S ((S 7 ((60 * a1) + a2 : Int32).toNatClampNeg) - 1) H.size _ h) (cwV 1 hts zg_zd_X12_make_zd_X12_layOne_191 rfl rfl rfl (by decide +kernel) ⟨Nat.le_of_ble_eq_true rfl, Nat.le_of_ble_eq_true rfl⟩) ⟨zBW, va_recv hK hP (ci := 12) (q0 := 0) rfl rfl, fun U hU hW => ⟨rfl, by rw [hU], by rw [hU]; exact hP, hE.warm hW, hD.weaken (fun _ _ _ _ => trivial)⟩⟩ rfl rfl hl.1 rfl (lv_room (Nat.le_of_ble_eq_true rfl)) dX12_make_351 ⟨Nat.le_of_ble_eq_true rfl, Nat.le_of_ble_eq_true rfl⟩) hS (fun q _ h => hFc q h) hFc (fun S35 t H locs ht hvm h hB hz1 hk1 hS => ?_)
      obtain ⟨hP, hD1⟩ := hB
      rw [ht] at hP
      have hD := hD1.weaken (fun k q _ hq => hFc q.1 hq)
      refine lv_aload_n hx hb dX12_make_354 rfl (lv_at hl 4 rfl) ?_
      refine lv_bipush (v := 11) hx hb dX12_make_355 (by decide) ?_
      refine lv_iconst (v := 0) hx hb dX12_make_357 (by decide) ?_
      refine lv_iload hx hb dX12_make_358 (lv_at hl 0 rfl) ?_
      refine lv_iconst (v := 0) hx hb dX12_make_360 (by decide) ?_
      have hFc := zm_free hD hS hA
      refine va_callv (va_runV (As := [.int 11, .int 0, .int (6 + (S 7 ((60 * a1) + a2 : Int32).toNatClampNeg)), .int 0]) (rest := []) ⟨hx, hb, hml, hown, hts⟩ (zd_X12_part l D cI cZ cP cF h0 q S35 11 0 (6 + (S 7 ((60 * a1) + a2 : Int32).toNatClampNeg)) 0 H.size _ h) (cwV 4 hts zg_zd_X12_make_zd_X12_part_187 rfl rfl rfl (by decide +kernel) ⟨Nat.le_of_ble_eq_true rfl, Nat.le_of_ble_eq_true rfl⟩) ⟨zBW, va_recv hK hP (ci := 12) (q0 := 0) rfl rfl, fun U hU hW => ⟨rfl, by rw [hU], by rw [hU]; exact hP, hE.warm hW, hD.weaken (fun _ _ _ _ => trivial)⟩⟩ rfl rfl hl.1 rfl (lv_room (Nat.le_of_ble_eq_true rfl)) dX12_make_361 ⟨Nat.le_of_ble_eq_true rfl, Nat.le_of_ble_eq_true rfl⟩) hS (fun q _ h => hFc q h) hFc (fun S36 t H locs ht hvm h hB hz1 hk1 hS => ?_)
      obtain ⟨hP, hD1⟩ := hB
      rw [ht] at hP
      have hD := hD1.weaken (fun k q _ hq => hFc q.1 hq)
      refine lv_goto (tgt := 585) hx hb dX12_make_364 (by decide) ?_
      exact W.vret hx hb hr (fun t ht hW => ⟨⟨S36, rfl, h, by rw [ht]; exact hP, hD⟩, hS.F ht⟩) hS.2.2 dX12_make_585
    · have h := h.2.2.2.2.2.2.2.2.2.2.2.2.2.2.1 h_in
      refine lv_tableIn (off := 321) (tgt := 367) hx hb dX12_make_46 (by rw [h_in]; decide) (by rw [h_in]; decide) (by rw [h_in]; decide) (by decide) ?_
      refine lv_aload_n hx hb dX12_make_367 rfl (lv_at hl 4 rfl) ?_
      refine va_get (D := D) (ci := 12) (v := .ref (q 30)) (C := RX12) (T := TX12) (N := 52) hx hb hts (fun _ h => List.mem_cons_of_mem _ (List.mem_append_right _ h)) hown hK hP 0 rfl rfl 30 (by decide) (hts (.fieldLink RX12 96 "TemplateForgeModel" "assumed" "[Z") (List.mem_of_getElem? (i := 46) rfl)) (fun _ h9 => h9) rfl dX12_make_368 ?_
      refine lv_iconst (v := 3) hx hb dX12_make_371 (by decide) ?_
      refine lv_iload hx hb dX12_make_372 (lv_at hl 2 rfl) ?_
      refine lv_iadd hx hb dX12_make_374 ?_
      have hin_37 := h.1
      have h := h.2
      refine va_zald hx hb hK hP 29 1 rfl rfl hin_37 dX12_make_375 ?_
      refine lv_if_eq (tgt := 402) hx hb dX12_make_376 (by decide) (fun c_38 => ?_) (fun c_38 => ?_)
      · have h := h.1 c_38
        refine lv_aload_n hx hb dX12_make_402 rfl (lv_at hl 4 rfl) ?_
        refine lv_bipush (v := 12) hx hb dX12_make_403 (by decide) ?_
        refine lv_bipush (v := 7) hx hb dX12_make_405 (by decide) ?_
        refine lv_iload hx hb dX12_make_407 (lv_at hl 1 rfl) ?_
        refine lv_iadd hx hb dX12_make_409 ?_
        refine lv_iload hx hb dX12_make_410 (lv_at hl 2 rfl) ?_
        refine lv_iconst (v := 0) hx hb dX12_make_412 (by decide) ?_
        have hFc := zm_free hD hS hA
        refine va_callv (va_runV (As := [.int 12, .int (7 + (S 7 ((60 * a1) + a2 : Int32).toNatClampNeg)), .int (S 5 ((60 * a1) + a2 : Int32).toNatClampNeg), .int 0]) (rest := []) ⟨hx, hb, hml, hown, hts⟩ (zd_X12_part l D cI cZ cP cF h0 q S 12 (7 + (S 7 ((60 * a1) + a2 : Int32).toNatClampNeg)) (S 5 ((60 * a1) + a2 : Int32).toNatClampNeg) 0 H.size _ h) (cwV 4 hts zg_zd_X12_make_zd_X12_part_187 rfl rfl rfl (by decide +kernel) ⟨Nat.le_of_ble_eq_true rfl, Nat.le_of_ble_eq_true rfl⟩) ⟨zBW, va_recv hK hP (ci := 12) (q0 := 0) rfl rfl, fun U hU hW => ⟨rfl, by rw [hU], by rw [hU]; exact hP, hE.warm hW, hD.weaken (fun _ _ _ _ => trivial)⟩⟩ rfl rfl hl.1 rfl (lv_room (Nat.le_of_ble_eq_true rfl)) dX12_make_413 ⟨Nat.le_of_ble_eq_true rfl, Nat.le_of_ble_eq_true rfl⟩) hS (fun q _ h => hFc q h) hFc (fun S39 t H locs ht hvm h hB hz1 hk1 hS => ?_)
        obtain ⟨hP, hD1⟩ := hB
        rw [ht] at hP
        have hD := hD1.weaken (fun k q _ hq => hFc q.1 hq)
        refine lv_goto (tgt := 585) hx hb dX12_make_416 (by decide) ?_
        exact W.vret hx hb hr (fun t ht hW => ⟨⟨S39, rfl, h, by rw [ht]; exact hP, hD⟩, hS.F ht⟩) hS.2.2 dX12_make_585
      · have h := h.2 c_38
        refine lv_aload_n hx hb dX12_make_379 rfl (lv_at hl 4 rfl) ?_
        refine lv_iload hx hb dX12_make_380 (lv_at hl 1 rfl) ?_
        refine lv_aload_n hx hb dX12_make_382 rfl (lv_at hl 4 rfl) ?_
        refine va_get (D := D) (ci := 12) (v := .ref (q 20)) (C := RX12) (T := TX12) (N := 52) hx hb hts (fun _ h => List.mem_cons_of_mem _ (List.mem_append_right _ h)) hown hK hP 0 rfl rfl 20 (by decide) (hts (.fieldLink RX12 65 "TemplateForgeModel" "value" "[I") (List.mem_of_getElem? (i := 47) rfl)) (fun _ h9 => h9) rfl dX12_make_383 ?_
        refine lv_bipush (v := 11) hx hb dX12_make_386 (by decide) ?_
        refine lv_iload_n hx hb dX12_make_388 rfl (lv_at hl 5 rfl) ?_
        refine lv_imul hx hb dX12_make_389 ?_
        refine lv_iconst (v := 3) hx hb dX12_make_390 (by decide) ?_
        refine lv_iadd hx hb dX12_make_391 ?_
        refine lv_iload hx hb dX12_make_392 (lv_at hl 2 rfl) ?_
        refine lv_iadd hx hb dX12_make_394 ?_
        have hin_40 := h.1
        have h := h.2
        refine va_iald hx hb hK hP 19 0 rfl rfl hin_40 dX12_make_395 ?_
        have hFc := zm_free hD hS hA
        refine va_callv (va_runV (As := [.int (S 7 ((60 * a1) + a2 : Int32).toNatClampNeg), .int (S 20 (((11 * a1) + 3) + (S 5 ((60 * a1) + a2 : Int32).toNatClampNeg) : Int32).toNatClampNeg)]) (rest := []) ⟨hx, hb, hml, hown, hts⟩ (zd_X12_knows l D cI cZ cP cF h0 q S (S 7 ((60 * a1) + a2 : Int32).toNatClampNeg) (S 20 (((11 * a1) + 3) + (S 5 ((60 * a1) + a2 : Int32).toNatClampNeg) : Int32).toNatClampNeg) H.size _ h) (cwV 2 hts zg_zd_X12_make_zd_X12_knows_201 rfl rfl rfl (by decide +kernel) ⟨Nat.le_of_ble_eq_true rfl, Nat.le_of_ble_eq_true rfl⟩) ⟨zBW, va_recv hK hP (ci := 12) (q0 := 0) rfl rfl, fun U hU hW => ⟨rfl, by rw [hU], by rw [hU]; exact hP, hE.warm hW, hD.weaken (fun _ _ _ _ => trivial)⟩⟩ rfl rfl hl.1 rfl (lv_room (Nat.le_of_ble_eq_true rfl)) dX12_make_396 ⟨Nat.le_of_ble_eq_true rfl, Nat.le_of_ble_eq_true rfl⟩) hS (fun q _ h => hFc q h) hFc (fun S41 t H locs ht hvm h hB hz1 hk1 hS => ?_)
        obtain ⟨hP, hD1⟩ := hB
        rw [ht] at hP
        have hD := hD1.weaken (fun k q _ hq => hFc q.1 hq)
        refine lv_goto (tgt := 585) hx hb dX12_make_399 (by decide) ?_
        exact W.vret hx hb hr (fun t ht hW => ⟨⟨S41, rfl, h, by rw [ht]; exact hP, hD⟩, hS.F ht⟩) hS.2.2 dX12_make_585
    · have h := h.2.2.2.2.2.2.2.2.2.2.2.2.2.2.2.1 h_in
      refine lv_tableIn (off := 373) (tgt := 419) hx hb dX12_make_46 (by rw [h_in]; decide) (by rw [h_in]; decide) (by rw [h_in]; decide) (by decide) ?_
      refine lv_aload_n hx hb dX12_make_419 rfl (lv_at hl 4 rfl) ?_
      refine lv_iload hx hb dX12_make_420 (lv_at hl 1 rfl) ?_
      refine lv_iconst (v := 1) hx hb dX12_make_422 (by decide) ?_
      refine lv_isub hx hb dX12_make_423 ?_
      have hFc := zm_free hD hS hA
      refine va_callv (va_runV (As := [.int ((S 7 ((60 * a1) + a2 : Int32).toNatClampNeg) - 1)]) (rest := []) ⟨hx, hb, hml, hown, hts⟩ (zd_X12_layOne l D cI cZ cP cF h0 q S ((S 7 ((60 * a1) + a2 : Int32).toNatClampNeg) - 1) H.size _ h) (cwV 1 hts zg_zd_X12_make_zd_X12_layOne_191 rfl rfl rfl (by decide +kernel) ⟨Nat.le_of_ble_eq_true rfl, Nat.le_of_ble_eq_true rfl⟩) ⟨zBW, va_recv hK hP (ci := 12) (q0 := 0) rfl rfl, fun U hU hW => ⟨rfl, by rw [hU], by rw [hU]; exact hP, hE.warm hW, hD.weaken (fun _ _ _ _ => trivial)⟩⟩ rfl rfl hl.1 rfl (lv_room (Nat.le_of_ble_eq_true rfl)) dX12_make_424 ⟨Nat.le_of_ble_eq_true rfl, Nat.le_of_ble_eq_true rfl⟩) hS (fun q _ h => hFc q h) hFc (fun S42 t H locs ht hvm h hB hz1 hk1 hS => ?_)
      obtain ⟨hP, hD1⟩ := hB
      rw [ht] at hP
      have hD := hD1.weaken (fun k q _ hq => hFc q.1 hq)
      refine lv_aload_n hx hb dX12_make_427 rfl (lv_at hl 4 rfl) ?_
      refine lv_bipush (v := 13) hx hb dX12_make_428 (by decide) ?_
      refine lv_iload hx hb dX12_make_430 (lv_at hl 2 rfl) ?_
      refine lv_iload hx hb dX12_make_432 (lv_at hl 0 rfl) ?_
      refine lv_iconst (v := 0) hx hb dX12_make_434 (by decide) ?_
      have hFc := zm_free hD hS hA
      refine va_callv (va_runV (As := [.int 13, .int (S 5 ((60 * a1) + a2 : Int32).toNatClampNeg), .int (6 + (S 7 ((60 * a1) + a2 : Int32).toNatClampNeg)), .int 0]) (rest := []) ⟨hx, hb, hml, hown, hts⟩ (zd_X12_part l D cI cZ cP cF h0 q S42 13 (S 5 ((60 * a1) + a2 : Int32).toNatClampNeg) (6 + (S 7 ((60 * a1) + a2 : Int32).toNatClampNeg)) 0 H.size _ h) (cwV 4 hts zg_zd_X12_make_zd_X12_part_187 rfl rfl rfl (by decide +kernel) ⟨Nat.le_of_ble_eq_true rfl, Nat.le_of_ble_eq_true rfl⟩) ⟨zBW, va_recv hK hP (ci := 12) (q0 := 0) rfl rfl, fun U hU hW => ⟨rfl, by rw [hU], by rw [hU]; exact hP, hE.warm hW, hD.weaken (fun _ _ _ _ => trivial)⟩⟩ rfl rfl hl.1 rfl (lv_room (Nat.le_of_ble_eq_true rfl)) dX12_make_435 ⟨Nat.le_of_ble_eq_true rfl, Nat.le_of_ble_eq_true rfl⟩) hS (fun q _ h => hFc q h) hFc (fun S43 t H locs ht hvm h hB hz1 hk1 hS => ?_)
      obtain ⟨hP, hD1⟩ := hB
      rw [ht] at hP
      have hD := hD1.weaken (fun k q _ hq => hFc q.1 hq)
      refine lv_goto (tgt := 585) hx hb dX12_make_438 (by decide) ?_
      exact W.vret hx hb hr (fun t ht hW => ⟨⟨S43, rfl, h, by rw [ht]; exact hP, hD⟩, hS.F ht⟩) hS.2.2 dX12_make_585
    · have h := h.2.2.2.2.2.2.2.2.2.2.2.2.2.2.2.2.1 h_in
      refine lv_tableIn (off := 395) (tgt := 441) hx hb dX12_make_46 (by rw [h_in]; decide) (by rw [h_in]; decide) (by rw [h_in]; decide) (by decide) ?_
      refine lv_aload_n hx hb dX12_make_441 rfl (lv_at hl 4 rfl) ?_
      refine lv_iload hx hb dX12_make_442 (lv_at hl 1 rfl) ?_
      refine lv_iconst (v := 1) hx hb dX12_make_444 (by decide) ?_
      refine lv_isub hx hb dX12_make_445 ?_
      have hFc := zm_free hD hS hA
      refine va_callv (va_runV (As := [.int ((S 7 ((60 * a1) + a2 : Int32).toNatClampNeg) - 1)]) (rest := []) ⟨hx, hb, hml, hown, hts⟩ (zd_X12_layOne l D cI cZ cP cF h0 q S ((S 7 ((60 * a1) + a2 : Int32).toNatClampNeg) - 1) H.size _ h) (cwV 1 hts zg_zd_X12_make_zd_X12_layOne_191 rfl rfl rfl (by decide +kernel) ⟨Nat.le_of_ble_eq_true rfl, Nat.le_of_ble_eq_true rfl⟩) ⟨zBW, va_recv hK hP (ci := 12) (q0 := 0) rfl rfl, fun U hU hW => ⟨rfl, by rw [hU], by rw [hU]; exact hP, hE.warm hW, hD.weaken (fun _ _ _ _ => trivial)⟩⟩ rfl rfl hl.1 rfl (lv_room (Nat.le_of_ble_eq_true rfl)) dX12_make_446 ⟨Nat.le_of_ble_eq_true rfl, Nat.le_of_ble_eq_true rfl⟩) hS (fun q _ h => hFc q h) hFc (fun S44 t H locs ht hvm h hB hz1 hk1 hS => ?_)
      obtain ⟨hP, hD1⟩ := hB
      rw [ht] at hP
      have hD := hD1.weaken (fun k q _ hq => hFc q.1 hq)
      refine lv_aload_n hx hb dX12_make_449 rfl (lv_at hl 4 rfl) ?_
      refine lv_bipush (v := 14) hx hb dX12_make_450 (by decide) ?_
      refine lv_iload hx hb dX12_make_452 (lv_at hl 2 rfl) ?_
      refine lv_iload hx hb dX12_make_454 (lv_at hl 0 rfl) ?_
      refine lv_iconst (v := 0) hx hb dX12_make_456 (by decide) ?_
      have hFc := zm_free hD hS hA
      refine va_callv (va_runV (As := [.int 14, .int (S 5 ((60 * a1) + a2 : Int32).toNatClampNeg), .int (6 + (S 7 ((60 * a1) + a2 : Int32).toNatClampNeg)), .int 0]) (rest := []) ⟨hx, hb, hml, hown, hts⟩ (zd_X12_part l D cI cZ cP cF h0 q S44 14 (S 5 ((60 * a1) + a2 : Int32).toNatClampNeg) (6 + (S 7 ((60 * a1) + a2 : Int32).toNatClampNeg)) 0 H.size _ h) (cwV 4 hts zg_zd_X12_make_zd_X12_part_187 rfl rfl rfl (by decide +kernel) ⟨Nat.le_of_ble_eq_true rfl, Nat.le_of_ble_eq_true rfl⟩) ⟨zBW, va_recv hK hP (ci := 12) (q0 := 0) rfl rfl, fun U hU hW => ⟨rfl, by rw [hU], by rw [hU]; exact hP, hE.warm hW, hD.weaken (fun _ _ _ _ => trivial)⟩⟩ rfl rfl hl.1 rfl (lv_room (Nat.le_of_ble_eq_true rfl)) dX12_make_457 ⟨Nat.le_of_ble_eq_true rfl, Nat.le_of_ble_eq_true rfl⟩) hS (fun q _ h => hFc q h) hFc (fun S45 t H locs ht hvm h hB hz1 hk1 hS => ?_)
      obtain ⟨hP, hD1⟩ := hB
      rw [ht] at hP
      have hD := hD1.weaken (fun k q _ hq => hFc q.1 hq)
      refine lv_goto (tgt := 585) hx hb dX12_make_460 (by decide) ?_
      exact W.vret hx hb hr (fun t ht hW => ⟨⟨S45, rfl, h, by rw [ht]; exact hP, hD⟩, hS.F ht⟩) hS.2.2 dX12_make_585
    · have h := h.2.2.2.2.2.2.2.2.2.2.2.2.2.2.2.2.2.1 h_in
      refine lv_tableIn (off := 417) (tgt := 463) hx hb dX12_make_46 (by rw [h_in]; decide) (by rw [h_in]; decide) (by rw [h_in]; decide) (by decide) ?_
      refine lv_aload_n hx hb dX12_make_463 rfl (lv_at hl 4 rfl) ?_
      refine lv_iload hx hb dX12_make_464 (lv_at hl 1 rfl) ?_
      refine lv_iconst (v := 1) hx hb dX12_make_466 (by decide) ?_
      refine lv_isub hx hb dX12_make_467 ?_
      have hFc := zm_free hD hS hA
      refine va_callv (va_runV (As := [.int ((S 7 ((60 * a1) + a2 : Int32).toNatClampNeg) - 1)]) (rest := []) ⟨hx, hb, hml, hown, hts⟩ (zd_X12_layOne l D cI cZ cP cF h0 q S ((S 7 ((60 * a1) + a2 : Int32).toNatClampNeg) - 1) H.size _ h) (cwV 1 hts zg_zd_X12_make_zd_X12_layOne_191 rfl rfl rfl (by decide +kernel) ⟨Nat.le_of_ble_eq_true rfl, Nat.le_of_ble_eq_true rfl⟩) ⟨zBW, va_recv hK hP (ci := 12) (q0 := 0) rfl rfl, fun U hU hW => ⟨rfl, by rw [hU], by rw [hU]; exact hP, hE.warm hW, hD.weaken (fun _ _ _ _ => trivial)⟩⟩ rfl rfl hl.1 rfl (lv_room (Nat.le_of_ble_eq_true rfl)) dX12_make_468 ⟨Nat.le_of_ble_eq_true rfl, Nat.le_of_ble_eq_true rfl⟩) hS (fun q _ h => hFc q h) hFc (fun S46 t H locs ht hvm h hB hz1 hk1 hS => ?_)
      obtain ⟨hP, hD1⟩ := hB
      rw [ht] at hP
      have hD := hD1.weaken (fun k q _ hq => hFc q.1 hq)
      refine lv_aload_n hx hb dX12_make_471 rfl (lv_at hl 4 rfl) ?_
      refine lv_bipush (v := 15) hx hb dX12_make_472 (by decide) ?_
      refine lv_iload hx hb dX12_make_474 (lv_at hl 0 rfl) ?_
      refine lv_iload hx hb dX12_make_476 (lv_at hl 2 rfl) ?_
      refine lv_iload hx hb dX12_make_478 (lv_at hl 0 rfl) ?_
      have hFc := zm_free hD hS hA
      refine va_callv (va_runV (As := [.int 15, .int (6 + (S 7 ((60 * a1) + a2 : Int32).toNatClampNeg)), .int (S 5 ((60 * a1) + a2 : Int32).toNatClampNeg), .int (6 + (S 7 ((60 * a1) + a2 : Int32).toNatClampNeg))]) (rest := []) ⟨hx, hb, hml, hown, hts⟩ (zd_X12_part l D cI cZ cP cF h0 q S46 15 (6 + (S 7 ((60 * a1) + a2 : Int32).toNatClampNeg)) (S 5 ((60 * a1) + a2 : Int32).toNatClampNeg) (6 + (S 7 ((60 * a1) + a2 : Int32).toNatClampNeg)) H.size _ h) (cwV 4 hts zg_zd_X12_make_zd_X12_part_187 rfl rfl rfl (by decide +kernel) ⟨Nat.le_of_ble_eq_true rfl, Nat.le_of_ble_eq_true rfl⟩) ⟨zBW, va_recv hK hP (ci := 12) (q0 := 0) rfl rfl, fun U hU hW => ⟨rfl, by rw [hU], by rw [hU]; exact hP, hE.warm hW, hD.weaken (fun _ _ _ _ => trivial)⟩⟩ rfl rfl hl.1 rfl (lv_room (Nat.le_of_ble_eq_true rfl)) dX12_make_480 ⟨Nat.le_of_ble_eq_true rfl, Nat.le_of_ble_eq_true rfl⟩) hS (fun q _ h => hFc q h) hFc (fun S47 t H locs ht hvm h hB hz1 hk1 hS => ?_)
      obtain ⟨hP, hD1⟩ := hB
      rw [ht] at hP
      have hD := hD1.weaken (fun k q _ hq => hFc q.1 hq)
      refine lv_goto (tgt := 585) hx hb dX12_make_483 (by decide) ?_
      exact W.vret hx hb hr (fun t ht hW => ⟨⟨S47, rfl, h, by rw [ht]; exact hP, hD⟩, hS.F ht⟩) hS.2.2 dX12_make_585
    · have h := h.2.2.2.2.2.2.2.2.2.2.2.2.2.2.2.2.2.2.1 h_in
      refine lv_tableIn (off := 440) (tgt := 486) hx hb dX12_make_46 (by rw [h_in]; decide) (by rw [h_in]; decide) (by rw [h_in]; decide) (by decide) ?_
      refine lv_aload_n hx hb dX12_make_486 rfl (lv_at hl 4 rfl) ?_
      refine lv_iload hx hb dX12_make_487 (lv_at hl 1 rfl) ?_
      refine lv_iconst (v := 2) hx hb dX12_make_489 (by decide) ?_
      refine lv_isub hx hb dX12_make_490 ?_
      have hFc := zm_free hD hS hA
      refine va_callv (va_runV (As := [.int ((S 7 ((60 * a1) + a2 : Int32).toNatClampNeg) - 2)]) (rest := []) ⟨hx, hb, hml, hown, hts⟩ (zd_X12_layOne l D cI cZ cP cF h0 q S ((S 7 ((60 * a1) + a2 : Int32).toNatClampNeg) - 2) H.size _ h) (cwV 1 hts zg_zd_X12_make_zd_X12_layOne_191 rfl rfl rfl (by decide +kernel) ⟨Nat.le_of_ble_eq_true rfl, Nat.le_of_ble_eq_true rfl⟩) ⟨zBW, va_recv hK hP (ci := 12) (q0 := 0) rfl rfl, fun U hU hW => ⟨rfl, by rw [hU], by rw [hU]; exact hP, hE.warm hW, hD.weaken (fun _ _ _ _ => trivial)⟩⟩ rfl rfl hl.1 rfl (lv_room (Nat.le_of_ble_eq_true rfl)) dX12_make_491 ⟨Nat.le_of_ble_eq_true rfl, Nat.le_of_ble_eq_true rfl⟩) hS (fun q _ h => hFc q h) hFc (fun S48 t H locs ht hvm h hB hz1 hk1 hS => ?_)
      obtain ⟨hP, hD1⟩ := hB
      rw [ht] at hP
      have hD := hD1.weaken (fun k q _ hq => hFc q.1 hq)
      refine lv_aload_n hx hb dX12_make_494 rfl (lv_at hl 4 rfl) ?_
      refine lv_iload hx hb dX12_make_495 (lv_at hl 1 rfl) ?_
      refine lv_iconst (v := 1) hx hb dX12_make_497 (by decide) ?_
      refine lv_isub hx hb dX12_make_498 ?_
      have hFc := zm_free hD hS hA
      refine va_callv (va_runV (As := [.int ((S 7 ((60 * a1) + a2 : Int32).toNatClampNeg) - 1)]) (rest := []) ⟨hx, hb, hml, hown, hts⟩ (zd_X12_layOne l D cI cZ cP cF h0 q S48 ((S 7 ((60 * a1) + a2 : Int32).toNatClampNeg) - 1) H.size _ h) (cwV 1 hts zg_zd_X12_make_zd_X12_layOne_191 rfl rfl rfl (by decide +kernel) ⟨Nat.le_of_ble_eq_true rfl, Nat.le_of_ble_eq_true rfl⟩) ⟨zBW, va_recv hK hP (ci := 12) (q0 := 0) rfl rfl, fun U hU hW => ⟨rfl, by rw [hU], by rw [hU]; exact hP, hE.warm hW, hD.weaken (fun _ _ _ _ => trivial)⟩⟩ rfl rfl hl.1 rfl (lv_room (Nat.le_of_ble_eq_true rfl)) dX12_make_499 ⟨Nat.le_of_ble_eq_true rfl, Nat.le_of_ble_eq_true rfl⟩) hS (fun q _ h => hFc q h) hFc (fun S49 t H locs ht hvm h hB hz1 hk1 hS => ?_)
      obtain ⟨hP, hD1⟩ := hB
      rw [ht] at hP
      have hD := hD1.weaken (fun k q _ hq => hFc q.1 hq)
      refine lv_aload_n hx hb dX12_make_502 rfl (lv_at hl 4 rfl) ?_
      refine lv_bipush (v := 16) hx hb dX12_make_503 (by decide) ?_
      refine lv_iload hx hb dX12_make_505 (lv_at hl 2 rfl) ?_
      refine lv_iload hx hb dX12_make_507 (lv_at hl 0 rfl) ?_
      refine lv_iconst (v := 1) hx hb dX12_make_509 (by decide) ?_
      refine lv_isub hx hb dX12_make_510 ?_
      refine lv_iload hx hb dX12_make_511 (lv_at hl 0 rfl) ?_
      have hFc := zm_free hD hS hA
      refine va_callv (va_runV (As := [.int 16, .int (S 5 ((60 * a1) + a2 : Int32).toNatClampNeg), .int ((6 + (S 7 ((60 * a1) + a2 : Int32).toNatClampNeg)) - 1), .int (6 + (S 7 ((60 * a1) + a2 : Int32).toNatClampNeg))]) (rest := []) ⟨hx, hb, hml, hown, hts⟩ (zd_X12_part l D cI cZ cP cF h0 q S49 16 (S 5 ((60 * a1) + a2 : Int32).toNatClampNeg) ((6 + (S 7 ((60 * a1) + a2 : Int32).toNatClampNeg)) - 1) (6 + (S 7 ((60 * a1) + a2 : Int32).toNatClampNeg)) H.size _ h) (cwV 4 hts zg_zd_X12_make_zd_X12_part_187 rfl rfl rfl (by decide +kernel) ⟨Nat.le_of_ble_eq_true rfl, Nat.le_of_ble_eq_true rfl⟩) ⟨zBW, va_recv hK hP (ci := 12) (q0 := 0) rfl rfl, fun U hU hW => ⟨rfl, by rw [hU], by rw [hU]; exact hP, hE.warm hW, hD.weaken (fun _ _ _ _ => trivial)⟩⟩ rfl rfl hl.1 rfl (lv_room (Nat.le_of_ble_eq_true rfl)) dX12_make_513 ⟨Nat.le_of_ble_eq_true rfl, Nat.le_of_ble_eq_true rfl⟩) hS (fun q _ h => hFc q h) hFc (fun S50 t H locs ht hvm h hB hz1 hk1 hS => ?_)
      obtain ⟨hP, hD1⟩ := hB
      rw [ht] at hP
      have hD := hD1.weaken (fun k q _ hq => hFc q.1 hq)
      refine lv_goto (tgt := 585) hx hb dX12_make_516 (by decide) ?_
      exact W.vret hx hb hr (fun t ht hW => ⟨⟨S50, rfl, h, by rw [ht]; exact hP, hD⟩, hS.F ht⟩) hS.2.2 dX12_make_585
    · have h := h.2.2.2.2.2.2.2.2.2.2.2.2.2.2.2.2.2.2.2.1 h_in
      refine lv_tableIn (off := 473) (tgt := 519) hx hb dX12_make_46 (by rw [h_in]; decide) (by rw [h_in]; decide) (by rw [h_in]; decide) (by decide) ?_
      refine lv_aload_n hx hb dX12_make_519 rfl (lv_at hl 4 rfl) ?_
      refine va_get (D := D) (ci := 12) (v := .ref (q 35)) (C := RX12) (T := TX12) (N := 52) hx hb hts (fun _ h => List.mem_cons_of_mem _ (List.mem_append_right _ h)) hown hK hP 0 rfl rfl 35 (by decide) (hts (.fieldLink RX12 105 "TemplateForgeModel" "placeKnown" "[Z") (List.mem_of_getElem? (i := 5) rfl)) (fun _ h9 => h9) rfl dX12_make_520 ?_
      refine lv_iload hx hb dX12_make_523 (lv_at hl 1 rfl) ?_
      refine lv_iconst (v := 1) hx hb dX12_make_525 (by decide) ?_
      refine lv_isub hx hb dX12_make_526 ?_
      have hin_51 := h.1
      have h := h.2
      refine va_zald hx hb hK hP 32 1 rfl rfl hin_51 dX12_make_527 ?_
      refine lv_if_eq (tgt := 549) hx hb dX12_make_528 (by decide) (fun c_52 => ?_) (fun c_52 => ?_)
      · have h := h.1 c_52
        refine lv_aload_n hx hb dX12_make_549 rfl (lv_at hl 4 rfl) ?_
        refine lv_iconst (v := 1) hx hb dX12_make_550 (by decide) ?_
        refine lv_bipush (v := 7) hx hb dX12_make_551 (by decide) ?_
        refine lv_iload hx hb dX12_make_553 (lv_at hl 1 rfl) ?_
        refine lv_iadd hx hb dX12_make_555 ?_
        refine lv_iload hx hb dX12_make_556 (lv_at hl 0 rfl) ?_
        refine lv_iconst (v := 0) hx hb dX12_make_558 (by decide) ?_
        have hFc := zm_free hD hS hA
        refine va_callv (va_runV (As := [.int 1, .int (7 + (S 7 ((60 * a1) + a2 : Int32).toNatClampNeg)), .int (6 + (S 7 ((60 * a1) + a2 : Int32).toNatClampNeg)), .int 0]) (rest := []) ⟨hx, hb, hml, hown, hts⟩ (zd_X12_part l D cI cZ cP cF h0 q S 1 (7 + (S 7 ((60 * a1) + a2 : Int32).toNatClampNeg)) (6 + (S 7 ((60 * a1) + a2 : Int32).toNatClampNeg)) 0 H.size _ h) (cwV 4 hts zg_zd_X12_make_zd_X12_part_187 rfl rfl rfl (by decide +kernel) ⟨Nat.le_of_ble_eq_true rfl, Nat.le_of_ble_eq_true rfl⟩) ⟨zBW, va_recv hK hP (ci := 12) (q0 := 0) rfl rfl, fun U hU hW => ⟨rfl, by rw [hU], by rw [hU]; exact hP, hE.warm hW, hD.weaken (fun _ _ _ _ => trivial)⟩⟩ rfl rfl hl.1 rfl (lv_room (Nat.le_of_ble_eq_true rfl)) dX12_make_559 ⟨Nat.le_of_ble_eq_true rfl, Nat.le_of_ble_eq_true rfl⟩) hS (fun q _ h => hFc q h) hFc (fun S53 t H locs ht hvm h hB hz1 hk1 hS => ?_)
        obtain ⟨hP, hD1⟩ := hB
        rw [ht] at hP
        have hD := hD1.weaken (fun k q _ hq => hFc q.1 hq)
        refine lv_goto (tgt := 585) hx hb dX12_make_562 (by decide) ?_
        exact W.vret hx hb hr (fun t ht hW => ⟨⟨S53, rfl, h, by rw [ht]; exact hP, hD⟩, hS.F ht⟩) hS.2.2 dX12_make_585
      · have h := h.2 c_52
        refine lv_aload_n hx hb dX12_make_531 rfl (lv_at hl 4 rfl) ?_
        refine lv_iload hx hb dX12_make_532 (lv_at hl 1 rfl) ?_
        refine lv_aload_n hx hb dX12_make_534 rfl (lv_at hl 4 rfl) ?_
        refine va_get (D := D) (ci := 12) (v := .ref (q 36)) (C := RX12) (T := TX12) (N := 52) hx hb hts (fun _ h => List.mem_cons_of_mem _ (List.mem_append_right _ h)) hown hK hP 0 rfl rfl 36 (by decide) (hts (.fieldLink RX12 108 "TemplateForgeModel" "placeIs" "[I") (List.mem_of_getElem? (i := 7) rfl)) (fun _ h9 => h9) rfl dX12_make_535 ?_
        refine lv_iload hx hb dX12_make_538 (lv_at hl 1 rfl) ?_
        refine lv_iconst (v := 1) hx hb dX12_make_540 (by decide) ?_
        refine lv_isub hx hb dX12_make_541 ?_
        have hin_54 := h.1
        have h := h.2
        refine va_iald hx hb hK hP 33 0 rfl rfl hin_54 dX12_make_542 ?_
        have hFc := zm_free hD hS hA
        refine va_callv (va_runV (As := [.int (S 7 ((60 * a1) + a2 : Int32).toNatClampNeg), .int (S 36 ((S 7 ((60 * a1) + a2 : Int32).toNatClampNeg) - 1 : Int32).toNatClampNeg)]) (rest := []) ⟨hx, hb, hml, hown, hts⟩ (zd_X12_knows l D cI cZ cP cF h0 q S (S 7 ((60 * a1) + a2 : Int32).toNatClampNeg) (S 36 ((S 7 ((60 * a1) + a2 : Int32).toNatClampNeg) - 1 : Int32).toNatClampNeg) H.size _ h) (cwV 2 hts zg_zd_X12_make_zd_X12_knows_201 rfl rfl rfl (by decide +kernel) ⟨Nat.le_of_ble_eq_true rfl, Nat.le_of_ble_eq_true rfl⟩) ⟨zBW, va_recv hK hP (ci := 12) (q0 := 0) rfl rfl, fun U hU hW => ⟨rfl, by rw [hU], by rw [hU]; exact hP, hE.warm hW, hD.weaken (fun _ _ _ _ => trivial)⟩⟩ rfl rfl hl.1 rfl (lv_room (Nat.le_of_ble_eq_true rfl)) dX12_make_543 ⟨Nat.le_of_ble_eq_true rfl, Nat.le_of_ble_eq_true rfl⟩) hS (fun q _ h => hFc q h) hFc (fun S55 t H locs ht hvm h hB hz1 hk1 hS => ?_)
        obtain ⟨hP, hD1⟩ := hB
        rw [ht] at hP
        have hD := hD1.weaken (fun k q _ hq => hFc q.1 hq)
        refine lv_goto (tgt := 585) hx hb dX12_make_546 (by decide) ?_
        exact W.vret hx hb hr (fun t ht hW => ⟨⟨S55, rfl, h, by rw [ht]; exact hP, hD⟩, hS.F ht⟩) hS.2.2 dX12_make_585
    · have h := h.2.2.2.2.2.2.2.2.2.2.2.2.2.2.2.2.2.2.2.2 h_in
      refine lv_tableIn (off := 519) (tgt := 565) hx hb dX12_make_46 (by rw [h_in]; decide) (by rw [h_in]; decide) (by rw [h_in]; decide) (by decide) ?_
      refine lv_aload_n hx hb dX12_make_565 rfl (lv_at hl 4 rfl) ?_
      refine va_get (D := D) (ci := 12) (v := .ref (q 35)) (C := RX12) (T := TX12) (N := 52) hx hb hts (fun _ h => List.mem_cons_of_mem _ (List.mem_append_right _ h)) hown hK hP 0 rfl rfl 35 (by decide) (hts (.fieldLink RX12 105 "TemplateForgeModel" "placeKnown" "[Z") (List.mem_of_getElem? (i := 5) rfl)) (fun _ h9 => h9) rfl dX12_make_566 ?_
      refine lv_iload hx hb dX12_make_569 (lv_at hl 1 rfl) ?_
      refine lv_iconst (v := 1) hx hb dX12_make_571 (by decide) ?_
      refine lv_isub hx hb dX12_make_572 ?_
      refine lv_iconst (v := 0) hx hb dX12_make_573 (by decide) ?_
      have hin_56 := h.1
      have h := h.2
      refine va_zast hx hb hK hP hD hS 32 1 rfl rfl hin_56 dX12_make_574 (fun H locs hP hD hS => ?_)
      obtain ⟨S56, eS56⟩ : ∃ z, z = ms S 35 (upd (S 35) ((S 7 ((60 * a1) + a2 : Int32).toNatClampNeg) - 1 : Int32).toNatClampNeg (vp_nar .boolean 0)) := ⟨_, rfl⟩
      have hP : va_P D vwCl (mW cI cZ h0 q S56) H := by rw [eS56]; exact hP
      have hD : va_D A (mW cI cZ h0 q S56) := by rw [eS56]; exact hD
      have h := h S56 eS56
      refine lv_goto (tgt := 585) hx hb dX12_make_575 (by decide) ?_
      exact W.vret hx hb hr (fun t ht hW => ⟨⟨S56, rfl, h, by rw [ht]; exact hP, hD⟩, hS.F ht⟩) hS.2.2 dX12_make_585
  exact key _ _ hP va_S.rf
