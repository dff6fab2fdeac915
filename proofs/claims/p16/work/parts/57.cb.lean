theorem zt_13_17 (x : Int32) : (x.toInt < 13 ∨ 17 < x.toInt) ∨ x = 13 ∨ x = 14 ∨ x = 15 ∨ x = 16 ∨ x = 17 := by
  by_cases h : x.toInt < 13 ∨ 17 < x.toInt
  · exact Or.inl h
  · right
    have e : ∀ c : Int32, x.toInt = c.toInt → x = c := fun c hc => Int32.toInt.inj hc
    rcases (show x.toInt = 13 ∨ x.toInt = 14 ∨ x.toInt = 15 ∨ x.toInt = 16 ∨ x.toInt = 17 by omega) with h | h | h | h | h
    · exact (Or.inl (e 13 (by rw [h]; decide)))
    · exact (Or.inr (Or.inl (e 14 (by rw [h]; decide))))
    · exact (Or.inr (Or.inr (Or.inl (e 15 (by rw [h]; decide)))))
    · exact (Or.inr (Or.inr (Or.inr (Or.inl (e 16 (by rw [h]; decide))))))
    · exact (Or.inr (Or.inr (Or.inr (Or.inr (e 17 (by rw [h]; decide))))))
def wp_X3_addReckoning (S : CST) (a1 : Int32) (a2 : Int32) (a3 : Int32) (a4 : Int32) (Post : CST → Prop) : Prop :=
  ((a1 : Int32).toInt < 13 ∨ 17 < (a1 : Int32).toInt → (wp_X3_add S ((a1 - 3) + 2) (a3 - 2) (a3 - 2) (a3 - 1) a4 (fun S2 => Post S2))) ∧ (a1 = 13 → (wp_X3_add S 12 a3 a2 0 a4 (fun S4 => Post S4))) ∧ (a1 = 14 → (wp_X3_add S 13 a2 (a3 - 1) 0 a4 (fun S6 => Post S6))) ∧ (a1 = 15 → (wp_X3_add S 14 a2 (a3 - 1) 0 a4 (fun S8 => Post S8))) ∧ (a1 = 16 → (wp_X3_add S 15 (a3 - 1) a2 (a3 - 1) a4 (fun S10 => Post S10))) ∧ (a1 = 17 → (wp_X3_add S 16 a2 (a3 - 2) (a3 - 1) a4 (fun S12 => Post S12)))
def zw_zd_X3_addReckoning_w0 : List Cond := [.code yX3_add cX3_add 7 none, .fieldLink RX3 18 "TemplateForge$Draft" "parts" "I", .fieldLink RX3 9 "TemplateForge$Draft" "cells" "[I", .methodLink RX3 40 yX3_add, .instanceMethod yX3_add, .selects RX3 yX3_add yX3_add, .initialized RX3]
def zw_zd_X3_addReckoning : List Cond := .code yX3_addReckoning cX3_addReckoning 5 none :: ((zw_zd_X3_addReckoning_w0) ++ wsX30)
set_option maxRecDepth 100000 in
theorem zg_zd_X3_addReckoning_zd_X3_add_40_a : GoodIn zw_zd_X3_addReckoning [.methodLink RX3 40 yX3_add, .instanceMethod yX3_add, .selects RX3 yX3_add yX3_add, .initialized RX3] := goodIn_r _ [4, 5, 6, 7] rfl (by decide +kernel)
set_option maxRecDepth 100000 in
theorem zg_zd_X3_addReckoning_zd_X3_add_40_c : GoodIn zw_zd_X3_addReckoning [.code yX3_add cX3_add 7 none] := goodIn_r _ [1] rfl (by decide +kernel)
set_option maxRecDepth 100000 in
theorem zg_zd_X3_addReckoning_zd_X3_add_40_0 : GoodIn zw_zd_X3_addReckoning zw_zd_X3_add_w0 := goodIn_r _ [2, 3] rfl (by decide +kernel)
theorem zg_zd_X3_addReckoning_zd_X3_add_40 : GoodIn zw_zd_X3_addReckoning (wsV RX3 40 RX3 yX3_add zw_zd_X3_add) := goodIn_app zg_zd_X3_addReckoning_zd_X3_add_40_a (goodIn_ca (a := (zw_zd_X3_add_w0)) (show GoodIn zw_zd_X3_addReckoning (.code yX3_add cX3_add 7 none :: (zw_zd_X3_add_w0)) from goodIn_app zg_zd_X3_addReckoning_zd_X3_add_40_c (zg_zd_X3_addReckoning_zd_X3_add_40_0)) (fun w h => ⟨(fun _ h => List.mem_cons_of_mem _ (List.mem_append_right _ h)) w h, good_of_word (List.all_eq_true.mp zgw_X3 w h)⟩))
set_option maxHeartbeats 16000000 in
set_option maxRecDepth 100000 in
theorem zd_X3_addReckoning (l : Launch) (D : va_G) (cI cZ cP cF : Nat) (q : Nat → Nat → Nat) (S : CST) (a1 : Int32) (a2 : Int32) (a3 : Int32) (a4 : Int32) (sz : Nat) (Post : CST → Prop) (h : wp_X3_addReckoning S a1 a2 a3 a4 Post) : Met l yX3_addReckoning zw_zd_X3_addReckoning ({ frames := 1, cells := 0, slots := 0, locals := 26 }) (va_Pc [.ref (q 7 0), .int a1, .int a2, .int a3, .int a4] (fun U => U.heap.size = sz ∧ va_P D vwCl (cW cI cZ cP cF q S) U.heap ∧ zF D cI cZ cP cF U ∧ va_D (fun _ => True) (cW cI cZ cP cF q S))) (va_Qv (fun S' => Post S') (fun (S' : CST) t => va_P D vwCl (cW cI cZ cP cF q S') t.heap ∧ va_D (va_A (cW cI cZ cP cF q S) sz) (cW cI cZ cP cF q S') ∧ S'.2 = S.2) (va_A (cW cI cZ cP cF q S) sz)) 0 0 (va_A (cW cI cZ cP cF q S) sz) := by
  unfold wp_X3_addReckoning at h
  refine Met.ofW (cc := cX3_addReckoning) (maxL := 5) (ret := none) (by decide) rfl ?_
  intro p e s m args below meth c s₁ B hml hv
  obtain ⟨rfl, hsz, hP, hE, hD0⟩ := hv
  have hx := B.exec
  have hb := B.bytes
  have hr := B.returns
  have hts := atoms_spec (ws := zw_zd_X3_addReckoning) B.pre
  have hown : s.vm.findClass RX3 = some m.cls := findClass_of_methodNamed B.named
  have hlocks := B.notSynchronized
  have hK := hE.k
  subst hsz
  have hD := hD0.self (sz := s.heap.size)
  generalize hAe : va_A (cW cI cZ cP cF q S) s.heap.size = A at hD ⊢
  have hA : ∀ q : Nat, s.heap.size ≤ q → A q := fun q h => by rw [← hAe]; exact Or.inr h
  have hN : S.2 = S.2 := rfl
  have hl := lv_entry ([.ref (q 7 0), .int a1, .int a2, .int a3, .int a4]) (n := 5) (Nat.le_of_ble_eq_true rfl)
  rw [lg_entry_eq]
  generalize (lg_sl ([.ref (q 7 0), .int a1, .int a2, .int a3, .int a4]) ++ List.replicate (5 - (lg_sl ([.ref (q 7 0), .int a1, .int a2, .int a3, .int a4])).length) Slot.unset).toArray = ls at hl ⊢
  have hl : lv_has ls 5 [(0, .ref (q 7 0)), (1, .int a1), (2, .int a2), (3, .int a3), (4, .int a4)] := hl
  have key : ∀ (H : Heap) (locs : List Loc), va_P D vwCl (cW cI cZ cP cF q S) H → va_S A s.heap H locs → W p l e (headSpec zw_zd_X3_addReckoning ({ frames := 1, cells := 0, slots := 0, locals := 26 })).room s m ([.ref (q 7 0), .int a1, .int a2, .int a3, .int a4] : List Value).toArray below meth c H locs 0 0 (MQ below (va_Qv (fun S' => Post S') (fun (S' : CST) t => va_P D vwCl (cW cI cZ cP cF q S') t.heap ∧ va_D A (cW cI cZ cP cF q S') ∧ S'.2 = S.2) A) ([.ref (q 7 0), .int a1, .int a2, .int a3, .int a4] : List Value).toArray s 0 0 A) (F0 m 0 ls []) := by
    intro H locs hP hS
    refine lv_iload_n hx hb dX3_addReckoning_0 rfl (lv_at hl 1 rfl) ?_
    rcases zt_13_17 a1 with h_out | h_in | h_in | h_in | h_in | h_in
    · have h := h.1 h_out
      refine lv_tableOut (tgt := 118) hx hb dX3_addReckoning_1 h_out (by decide) ?_
      refine lv_aload_n hx hb dX3_addReckoning_118 rfl (lv_at hl 0 rfl) ?_
      refine lv_iload_n hx hb dX3_addReckoning_119 rfl (lv_at hl 1 rfl) ?_
      refine lv_iconst (v := 3) hx hb dX3_addReckoning_120 (by decide) ?_
      refine lv_isub hx hb dX3_addReckoning_121 ?_
      refine lv_iconst (v := 2) hx hb dX3_addReckoning_122 (by decide) ?_
      refine lv_iadd hx hb dX3_addReckoning_123 ?_
      refine lv_iload_n hx hb dX3_addReckoning_124 rfl (lv_at hl 3 rfl) ?_
      refine lv_iconst (v := 2) hx hb dX3_addReckoning_125 (by decide) ?_
      refine lv_isub hx hb dX3_addReckoning_126 ?_
      refine lv_iload_n hx hb dX3_addReckoning_127 rfl (lv_at hl 3 rfl) ?_
      refine lv_iconst (v := 2) hx hb dX3_addReckoning_128 (by decide) ?_
      refine lv_isub hx hb dX3_addReckoning_129 ?_
      refine lv_iload_n hx hb dX3_addReckoning_130 rfl (lv_at hl 3 rfl) ?_
      refine lv_iconst (v := 1) hx hb dX3_addReckoning_131 (by decide) ?_
      refine lv_isub hx hb dX3_addReckoning_132 ?_
      refine lv_iload hx hb dX3_addReckoning_133 (lv_at hl 4 rfl) ?_
      obtain ⟨p_1, hp_1⟩ := cget_7 cI cZ cP cF q S
      have hi_1 : cin S 7 0 := Or.inl ⟨by decide, rfl⟩
      have hFc := zm_free hD hS hA
      refine va_callv (va_runV (As := [.int ((a1 - 3) + 2), .int (a3 - 2), .int (a3 - 2), .int (a3 - 1), .int a4]) (rest := []) ⟨hx, hb, hml, hown, hts⟩ (zd_X3_add l D cI cZ cP cF q S ((a1 - 3) + 2) (a3 - 2) (a3 - 2) (a3 - 1) a4 H.size _ h) (cwV 5 hts zg_zd_X3_addReckoning_zd_X3_add_40 rfl rfl rfl (by decide +kernel) ⟨Nat.le_of_ble_eq_true rfl, Nat.le_of_ble_eq_true rfl⟩) ⟨zCW, va_recv hK hP (ci := 3) (q0 := p_1) rfl hp_1, fun U hU hW => ⟨rfl, by rw [hU], by rw [hU]; exact hP, hE.warm hW, hD.weaken (fun _ _ _ _ => trivial)⟩⟩ rfl rfl hl.1 rfl (lv_room (Nat.le_of_ble_eq_true rfl)) dX3_addReckoning_135 ⟨Nat.le_of_ble_eq_true rfl, Nat.le_of_ble_eq_true rfl⟩) hS (fun q _ h => hFc q h) hFc (fun S2 t H locs ht hvm h hB hz1 hk1 hS => ?_)
      obtain ⟨hP, hD1, hN1⟩ := hB
      rw [ht] at hP
      have hD := hD1.weaken (fun k q _ hq => hFc q.1 hq)
      have hN := hN1.trans hN
      exact W.vret hx hb hr (fun t ht hW => ⟨⟨S2, rfl, h, by rw [ht]; exact hP, hD, hN⟩, hS.F ht⟩) hS.2.2 dX3_addReckoning_138
    · have h := h.2.1 h_in
      refine lv_tableIn (off := 35) (tgt := 36) hx hb dX3_addReckoning_1 (by rw [h_in]; decide) (by rw [h_in]; decide) (by rw [h_in]; decide) (by decide) ?_
      refine lv_aload_n hx hb dX3_addReckoning_36 rfl (lv_at hl 0 rfl) ?_
      refine lv_bipush (v := 12) hx hb dX3_addReckoning_37 (by decide) ?_
      refine lv_iload_n hx hb dX3_addReckoning_39 rfl (lv_at hl 3 rfl) ?_
      refine lv_iload_n hx hb dX3_addReckoning_40 rfl (lv_at hl 2 rfl) ?_
      refine lv_iconst (v := 0) hx hb dX3_addReckoning_41 (by decide) ?_
      refine lv_iload hx hb dX3_addReckoning_42 (lv_at hl 4 rfl) ?_
      obtain ⟨p_3, hp_3⟩ := cget_7 cI cZ cP cF q S
      have hi_3 : cin S 7 0 := Or.inl ⟨by decide, rfl⟩
      have hFc := zm_free hD hS hA
      refine va_callv (va_runV (As := [.int 12, .int a3, .int a2, .int 0, .int a4]) (rest := []) ⟨hx, hb, hml, hown, hts⟩ (zd_X3_add l D cI cZ cP cF q S 12 a3 a2 0 a4 H.size _ h) (cwV 5 hts zg_zd_X3_addReckoning_zd_X3_add_40 rfl rfl rfl (by decide +kernel) ⟨Nat.le_of_ble_eq_true rfl, Nat.le_of_ble_eq_true rfl⟩) ⟨zCW, va_recv hK hP (ci := 3) (q0 := p_3) rfl hp_3, fun U hU hW => ⟨rfl, by rw [hU], by rw [hU]; exact hP, hE.warm hW, hD.weaken (fun _ _ _ _ => trivial)⟩⟩ rfl rfl hl.1 rfl (lv_room (Nat.le_of_ble_eq_true rfl)) dX3_addReckoning_44 ⟨Nat.le_of_ble_eq_true rfl, Nat.le_of_ble_eq_true rfl⟩) hS (fun q _ h => hFc q h) hFc (fun S4 t H locs ht hvm h hB hz1 hk1 hS => ?_)
      obtain ⟨hP, hD1, hN1⟩ := hB
      rw [ht] at hP
      have hD := hD1.weaken (fun k q _ hq => hFc q.1 hq)
      have hN := hN1.trans hN
      refine lv_goto (tgt := 138) hx hb dX3_addReckoning_47 (by decide) ?_
      exact W.vret hx hb hr (fun t ht hW => ⟨⟨S4, rfl, h, by rw [ht]; exact hP, hD, hN⟩, hS.F ht⟩) hS.2.2 dX3_addReckoning_138
    · have h := h.2.2.1 h_in
      refine lv_tableIn (off := 49) (tgt := 50) hx hb dX3_addReckoning_1 (by rw [h_in]; decide) (by rw [h_in]; decide) (by rw [h_in]; decide) (by decide) ?_
      refine lv_aload_n hx hb dX3_addReckoning_50 rfl (lv_at hl 0 rfl) ?_
      refine lv_bipush (v := 13) hx hb dX3_addReckoning_51 (by decide) ?_
      refine lv_iload_n hx hb dX3_addReckoning_53 rfl (lv_at hl 2 rfl) ?_
      refine lv_iload_n hx hb dX3_addReckoning_54 rfl (lv_at hl 3 rfl) ?_
      refine lv_iconst (v := 1) hx hb dX3_addReckoning_55 (by decide) ?_
      refine lv_isub hx hb dX3_addReckoning_56 ?_
      refine lv_iconst (v := 0) hx hb dX3_addReckoning_57 (by decide) ?_
      refine lv_iload hx hb dX3_addReckoning_58 (lv_at hl 4 rfl) ?_
      obtain ⟨p_5, hp_5⟩ := cget_7 cI cZ cP cF q S
      have hi_5 : cin S 7 0 := Or.inl ⟨by decide, rfl⟩
      have hFc := zm_free hD hS hA
      refine va_callv (va_runV (As := [.int 13, .int a2, .int (a3 - 1), .int 0, .int a4]) (rest := []) ⟨hx, hb, hml, hown, hts⟩ (zd_X3_add l D cI cZ cP cF q S 13 a2 (a3 - 1) 0 a4 H.size _ h) (cwV 5 hts zg_zd_X3_addReckoning_zd_X3_add_40 rfl rfl rfl (by decide +kernel) ⟨Nat.le_of_ble_eq_true rfl, Nat.le_of_ble_eq_true rfl⟩) ⟨zCW, va_recv hK hP (ci := 3) (q0 := p_5) rfl hp_5, fun U hU hW => ⟨rfl, by rw [hU], by rw [hU]; exact hP, hE.warm hW, hD.weaken (fun _ _ _ _ => trivial)⟩⟩ rfl rfl hl.1 rfl (lv_room (Nat.le_of_ble_eq_true rfl)) dX3_addReckoning_60 ⟨Nat.le_of_ble_eq_true rfl, Nat.le_of_ble_eq_true rfl⟩) hS (fun q _ h => hFc q h) hFc (fun S6 t H locs ht hvm h hB hz1 hk1 hS => ?_)
      obtain ⟨hP, hD1, hN1⟩ := hB
      rw [ht] at hP
      have hD := hD1.weaken (fun k q _ hq => hFc q.1 hq)
      have hN := hN1.trans hN
      refine lv_goto (tgt := 138) hx hb dX3_addReckoning_63 (by decide) ?_
      exact W.vret hx hb hr (fun t ht hW => ⟨⟨S6, rfl, h, by rw [ht]; exact hP, hD, hN⟩, hS.F ht⟩) hS.2.2 dX3_addReckoning_138
    · have h := h.2.2.2.1 h_in
      refine lv_tableIn (off := 65) (tgt := 66) hx hb dX3_addReckoning_1 (by rw [h_in]; decide) (by rw [h_in]; decide) (by rw [h_in]; decide) (by decide) ?_
      refine lv_aload_n hx hb dX3_addReckoning_66 rfl (lv_at hl 0 rfl) ?_
      refine lv_bipush (v := 14) hx hb dX3_addReckoning_67 (by decide) ?_
      refine lv_iload_n hx hb dX3_addReckoning_69 rfl (lv_at hl 2 rfl) ?_
      refine lv_iload_n hx hb dX3_addReckoning_70 rfl (lv_at hl 3 rfl) ?_
      refine lv_iconst (v := 1) hx hb dX3_addReckoning_71 (by decide) ?_
      refine lv_isub hx hb dX3_addReckoning_72 ?_
      refine lv_iconst (v := 0) hx hb dX3_addReckoning_73 (by decide) ?_
      refine lv_iload hx hb dX3_addReckoning_74 (lv_at hl 4 rfl) ?_
      obtain ⟨p_7, hp_7⟩ := cget_7 cI cZ cP cF q S
      have hi_7 : cin S 7 0 := Or.inl ⟨by decide, rfl⟩
      have hFc := zm_free hD hS hA
      refine va_callv (va_runV (As := [.int 14, .int a2, .int (a3 - 1), .int 0, .int a4]) (rest := []) ⟨hx, hb, hml, hown, hts⟩ (zd_X3_add l D cI cZ cP cF q S 14 a2 (a3 - 1) 0 a4 H.size _ h) (cwV 5 hts zg_zd_X3_addReckoning_zd_X3_add_40 rfl rfl rfl (by decide +kernel) ⟨Nat.le_of_ble_eq_true rfl, Nat.le_of_ble_eq_true rfl⟩) ⟨zCW, va_recv hK hP (ci := 3) (q0 := p_7) rfl hp_7, fun U hU hW => ⟨rfl, by rw [hU], by rw [hU]; exact hP, hE.warm hW, hD.weaken (fun _ _ _ _ => trivial)⟩⟩ rfl rfl hl.1 rfl (lv_room (Nat.le_of_ble_eq_true rfl)) dX3_addReckoning_76 ⟨Nat.le_of_ble_eq_true rfl, Nat.le_of_ble_eq_true rfl⟩) hS (fun q _ h => hFc q h) hFc (fun S8 t H locs ht hvm h hB hz1 hk1 hS => ?_)
      obtain ⟨hP, hD1, hN1⟩ := hB
      rw [ht] at hP
      have hD := hD1.weaken (fun k q _ hq => hFc q.1 hq)
      have hN := hN1.trans hN
      refine lv_goto (tgt := 138) hx hb dX3_addReckoning_79 (by decide) ?_
      exact W.vret hx hb hr (fun t ht hW => ⟨⟨S8, rfl, h, by rw [ht]; exact hP, hD, hN⟩, hS.F ht⟩) hS.2.2 dX3_addReckoning_138
    · have h := h.2.2.2.2.1 h_in
      refine lv_tableIn (off := 81) (tgt := 82) hx hb dX3_addReckoning_1 (by rw [h_in]; decide) (by rw [h_in]; decide) (by rw [h_in]; decide) (by decide) ?_
      refine lv_aload_n hx hb dX3_addReckoning_82 rfl (lv_at hl 0 rfl) ?_
      refine lv_bipush (v := 15) hx hb dX3_addReckoning_83 (by decide) ?_
      refine lv_iload_n hx hb dX3_addReckoning_85 rfl (lv_at hl 3 rfl) ?_
      refine lv_iconst (v := 1) hx hb dX3_addReckoning_86 (by decide) ?_
      refine lv_isub hx hb dX3_addReckoning_87 ?_
      refine lv_iload_n hx hb dX3_addReckoning_88 rfl (lv_at hl 2 rfl) ?_
      refine lv_iload_n hx hb dX3_addReckoning_89 rfl (lv_at hl 3 rfl) ?_
      refine lv_iconst (v := 1) hx hb dX3_addReckoning_90 (by decide) ?_
      refine lv_isub hx hb dX3_addReckoning_91 ?_
      refine lv_iload hx hb dX3_addReckoning_92 (lv_at hl 4 rfl) ?_
      obtain ⟨p_9, hp_9⟩ := cget_7 cI cZ cP cF q S
      have hi_9 : cin S 7 0 := Or.inl ⟨by decide, rfl⟩
      have hFc := zm_free hD hS hA
      refine va_callv (va_runV (As := [.int 15, .int (a3 - 1), .int a2, .int (a3 - 1), .int a4]) (rest := []) ⟨hx, hb, hml, hown, hts⟩ (zd_X3_add l D cI cZ cP cF q S 15 (a3 - 1) a2 (a3 - 1) a4 H.size _ h) (cwV 5 hts zg_zd_X3_addReckoning_zd_X3_add_40 rfl rfl rfl (by decide +kernel) ⟨Nat.le_of_ble_eq_true rfl, Nat.le_of_ble_eq_true rfl⟩) ⟨zCW, va_recv hK hP (ci := 3) (q0 := p_9) rfl hp_9, fun U hU hW => ⟨rfl, by rw [hU], by rw [hU]; exact hP, hE.warm hW, hD.weaken (fun _ _ _ _ => trivial)⟩⟩ rfl rfl hl.1 rfl (lv_room (Nat.le_of_ble_eq_true rfl)) dX3_addReckoning_94 ⟨Nat.le_of_ble_eq_true rfl, Nat.le_of_ble_eq_true rfl⟩) hS (fun q _ h => hFc q h) hFc (fun S10 t H locs ht hvm h hB hz1 hk1 hS => ?_)
      obtain ⟨hP, hD1, hN1⟩ := hB
      rw [ht] at hP
      have hD := hD1.weaken (fun k q _ hq => hFc q.1 hq)
      have hN := hN1.trans hN
      refine lv_goto (tgt := 138) hx hb dX3_addReckoning_97 (by decide) ?_
      exact W.vret hx hb hr (fun t ht hW => ⟨⟨S10, rfl, h, by rw [ht]; exact hP, hD, hN⟩, hS.F ht⟩) hS.2.2 dX3_addReckoning_138
    · have h := h.2.2.2.2.2 h_in
      refine lv_tableIn (off := 99) (tgt := 100) hx hb dX3_addReckoning_1 (by rw [h_in]; decide) (by rw [h_in]; decide) (by rw [h_in]; decide) (by decide) ?_
      refine lv_aload_n hx hb dX3_addReckoning_100 rfl (lv_at hl 0 rfl) ?_
      refine lv_bipush (v := 16) hx hb dX3_addReckoning_101 (by decide) ?_
      refine lv_iload_n hx hb dX3_addReckoning_103 rfl (lv_at hl 2 rfl) ?_
      refine lv_iload_n hx hb dX3_addReckoning_104 rfl (lv_at hl 3 rfl) ?_
      refine lv_iconst (v := 2) hx hb dX3_addReckoning_105 (by decide) ?_
      refine lv_isub hx hb dX3_addReckoning_106 ?_
      refine lv_iload_n hx hb dX3_addReckoning_107 rfl (lv_at hl 3 rfl) ?_
      refine lv_iconst (v := 1) hx hb dX3_addReckoning_108 (by decide) ?_
      refine lv_isub hx hb dX3_addReckoning_109 ?_
      refine lv_iload hx hb dX3_addReckoning_110 (lv_at hl 4 rfl) ?_
      obtain ⟨p_11, hp_11⟩ := cget_7 cI cZ cP cF q S
      have hi_11 : cin S 7 0 := Or.inl ⟨by decide, rfl⟩
      have hFc := zm_free hD hS hA
      refine va_callv (va_runV (As := [.int 16, .int a2, .int (a3 - 2), .int (a3 - 1), .int a4]) (rest := []) ⟨hx, hb, hml, hown, hts⟩ (zd_X3_add l D cI cZ cP cF q S 16 a2 (a3 - 2) (a3 - 1) a4 H.size _ h) (cwV 5 hts zg_zd_X3_addReckoning_zd_X3_add_40 rfl rfl rfl (by decide +kernel) ⟨Nat.le_of_ble_eq_true rfl, Nat.le_of_ble_eq_true rfl⟩) ⟨zCW, va_recv hK hP (ci := 3) (q0 := p_11) rfl hp_11, fun U hU hW => ⟨rfl, by rw [hU], by rw [hU]; exact hP, hE.warm hW, hD.weaken (fun _ _ _ _ => trivial)⟩⟩ rfl rfl hl.1 rfl (lv_room (Nat.le_of_ble_eq_true rfl)) dX3_addReckoning_112 ⟨Nat.le_of_ble_eq_true rfl, Nat.le_of_ble_eq_true rfl⟩) hS (fun q _ h => hFc q h) hFc (fun S12 t H locs ht hvm h hB hz1 hk1 hS => ?_)
      obtain ⟨hP, hD1, hN1⟩ := hB
      rw [ht] at hP
      have hD := hD1.weaken (fun k q _ hq => hFc q.1 hq)
      have hN := hN1.trans hN
      refine lv_goto (tgt := 138) hx hb dX3_addReckoning_115 (by decide) ?_
      exact W.vret hx hb hr (fun t ht hW => ⟨⟨S12, rfl, h, by rw [ht]; exact hP, hD, hN⟩, hS.F ht⟩) hS.2.2 dX3_addReckoning_138
  exact key _ _ hP va_S.rf

def wp_X3_addTemplate (S : CST) (i1 : Nat) (a2 : Int32) (Post : CST → Prop) : Prop :=
  cin S 24 i1 ∧ (wp_X8_opAt S i1 a2 (fun r2 => cin S 24 i1 ∧ (wp_X8_xAt S i1 a2 (fun r4 => cin S 24 i1 ∧ (wp_X8_depthAt S i1 a2 (fun r6 => ((r2 : Int32).toInt < 0 ∨ 19 < (r2 : Int32).toInt → (wp_X3_addReckoning S r2 r4 (7 + r6) a2 (fun S8 => Post S8))) ∧ (r2 = 0 → (wp_X3_add S 0 (7 + r6) r4 0 a2 (fun S10 => Post S10))) ∧ (r2 = 1 → (wp_X3_add S 1 (7 + r6) r4 0 a2 (fun S12 => Post S12))) ∧ (r2 = 2 → (wp_X3_add S 1 r4 ((7 + r6) - 1) 0 a2 (fun S14 => Post S14))) ∧ (r2 = 3 → (wp_X3_addReckoning S r2 r4 (7 + r6) a2 (fun S16 => Post S16))) ∧ (r2 = 4 → (wp_X3_addReckoning S r2 r4 (7 + r6) a2 (fun S18 => Post S18))) ∧ (r2 = 5 → (wp_X3_addReckoning S r2 r4 (7 + r6) a2 (fun S20 => Post S20))) ∧ (r2 = 6 → (wp_X3_addReckoning S r2 r4 (7 + r6) a2 (fun S22 => Post S22))) ∧ (r2 = 7 → (wp_X3_addReckoning S r2 r4 (7 + r6) a2 (fun S24 => Post S24))) ∧ (r2 = 8 → (wp_X3_addReckoning S r2 r4 (7 + r6) a2 (fun S26 => Post S26))) ∧ (r2 = 9 → (wp_X3_add S 8 r4 0 0 a2 (fun S28 => Post S28))) ∧ (r2 = 10 → (wp_X3_add S 9 r4 ((7 + r6) - 1) 0 a2 (fun S30 => Post S30))) ∧ (r2 = 11 → (cin S 24 i1 ∧ (wp_X8_depthAt S i1 (a2 + 1) (fun r32 => wp_X3_add S 10 ((7 + r32) - 1) r4 0 a2 (fun S34 => Post S34))))) ∧ (r2 = 12 → (wp_X3_add S 11 0 ((7 + r6) - 1) 0 a2 (fun S36 => Post S36))) ∧ (r2 = 13 → (wp_X3_addReckoning S r2 r4 (7 + r6) a2 (fun S38 => Post S38))) ∧ (r2 = 14 → (wp_X3_addReckoning S r2 r4 (7 + r6) a2 (fun S40 => Post S40))) ∧ (r2 = 15 → (wp_X3_addReckoning S r2 r4 (7 + r6) a2 (fun S42 => Post S42))) ∧ (r2 = 16 → (wp_X3_addReckoning S r2 r4 (7 + r6) a2 (fun S44 => Post S44))) ∧ (r2 = 17 → (wp_X3_addReckoning S r2 r4 (7 + r6) a2 (fun S46 => Post S46))) ∧ (r2 = 18 → (wp_X3_add S 1 (7 + r6) ((7 + r6) - 1) 0 a2 (fun S48 => Post S48))) ∧ (r2 = 19 → (Post S))))))))
def zw_zd_X3_addTemplate_w0 : List Cond := [.code yX8_opAt cX8_opAt 2 (some .int), .code yX8_has cX8_has 2 (some .boolean), .fieldLink RX8 41 "TemplateForge$Program" "length" "I", .methodLink RX8 44 yX8_has, .instanceMethod yX8_has, .selects RX8 yX8_has yX8_has, .initialized RX8, .fieldLink RX8 18 "TemplateForge$Program" "ops" "[I", .methodLink RX3 28 yX8_opAt, .instanceMethod yX8_opAt, .selects RX8 yX8_opAt yX8_opAt, .code yX8_xAt cX8_xAt 2 (some .int), .fieldLink RX8 22 "TemplateForge$Program" "xs" "[I", .methodLink RX3 34 yX8_xAt, .instanceMethod yX8_xAt, .selects RX8 yX8_xAt yX8_xAt]
def zw_zd_X3_addTemplate_w1 : List Cond := [.code yX8_depthAt cX8_depthAt 2 (some .int), .fieldLink RX8 25 "TemplateForge$Program" "depths" "[I", .methodLink RX3 37 yX8_depthAt, .instanceMethod yX8_depthAt, .selects RX8 yX8_depthAt yX8_depthAt, .code yX3_addReckoning cX3_addReckoning 5 none, .code yX3_add cX3_add 7 none, .fieldLink RX3 18 "TemplateForge$Draft" "parts" "I", .fieldLink RX3 9 "TemplateForge$Draft" "cells" "[I", .methodLink RX3 40 yX3_add, .instanceMethod yX3_add, .selects RX3 yX3_add yX3_add, .initialized RX3, .methodLink RX3 44 yX3_addReckoning, .instanceMethod yX3_addReckoning, .selects RX3 yX3_addReckoning yX3_addReckoning]
def zw_zd_X3_addTemplate : List Cond := .code yX3_addTemplate cX3_addTemplate 6 none :: ((zw_zd_X3_addTemplate_w0 ++ (zw_zd_X3_addTemplate_w1)) ++ wsX80 ++ wsX30)
set_option maxRecDepth 100000 in
theorem zg_zd_X3_addTemplate_zd_X8_opAt_28_a : GoodIn zw_zd_X3_addTemplate [.methodLink RX3 28 yX8_opAt, .instanceMethod yX8_opAt, .selects RX8 yX8_opAt yX8_opAt, .initialized RX8] := goodIn_r _ [9, 10, 11, 7] rfl (by decide +kernel)
set_option maxRecDepth 100000 in
theorem zg_zd_X3_addTemplate_zd_X8_opAt_28_c : GoodIn zw_zd_X3_addTemplate [.code yX8_opAt cX8_opAt 2 (some .int)] := goodIn_r _ [1] rfl (by decide +kernel)
set_option maxRecDepth 100000 in
theorem zg_zd_X3_addTemplate_zd_X8_opAt_28_0 : GoodIn zw_zd_X3_addTemplate zw_zd_X8_opAt_w0 := goodIn_r _ [2, 3, 4, 5, 6, 7, 8] rfl (by decide +kernel)
theorem zg_zd_X3_addTemplate_zd_X8_opAt_28 : GoodIn zw_zd_X3_addTemplate (wsV RX3 28 RX8 yX8_opAt zw_zd_X8_opAt) := goodIn_app zg_zd_X3_addTemplate_zd_X8_opAt_28_a (goodIn_ca (a := (zw_zd_X8_opAt_w0)) (show GoodIn zw_zd_X3_addTemplate (.code yX8_opAt cX8_opAt 2 (some .int) :: (zw_zd_X8_opAt_w0)) from goodIn_app zg_zd_X3_addTemplate_zd_X8_opAt_28_c (zg_zd_X3_addTemplate_zd_X8_opAt_28_0)) (fun w h => ⟨(fun _ h => List.mem_cons_of_mem _ (List.mem_append_left _ (List.mem_append_right _ h))) w h, good_of_word (List.all_eq_true.mp zgw_X8 w h)⟩))
set_option maxRecDepth 100000 in
theorem zg_zd_X3_addTemplate_zd_X8_xAt_34_a : GoodIn zw_zd_X3_addTemplate [.methodLink RX3 34 yX8_xAt, .instanceMethod yX8_xAt, .selects RX8 yX8_xAt yX8_xAt, .initialized RX8] := goodIn_r _ [14, 15, 16, 7] rfl (by decide +kernel)
set_option maxRecDepth 100000 in
theorem zg_zd_X3_addTemplate_zd_X8_xAt_34_c : GoodIn zw_zd_X3_addTemplate [.code yX8_xAt cX8_xAt 2 (some .int)] := goodIn_r _ [12] rfl (by decide +kernel)
set_option maxRecDepth 100000 in
theorem zg_zd_X3_addTemplate_zd_X8_xAt_34_0 : GoodIn zw_zd_X3_addTemplate zw_zd_X8_xAt_w0 := goodIn_r _ [2, 3, 4, 5, 6, 7, 13] rfl (by decide +kernel)
theorem zg_zd_X3_addTemplate_zd_X8_xAt_34 : GoodIn zw_zd_X3_addTemplate (wsV RX3 34 RX8 yX8_xAt zw_zd_X8_xAt) := goodIn_app zg_zd_X3_addTemplate_zd_X8_xAt_34_a (goodIn_ca (a := (zw_zd_X8_xAt_w0)) (show GoodIn zw_zd_X3_addTemplate (.code yX8_xAt cX8_xAt 2 (some .int) :: (zw_zd_X8_xAt_w0)) from goodIn_app zg_zd_X3_addTemplate_zd_X8_xAt_34_c (zg_zd_X3_addTemplate_zd_X8_xAt_34_0)) (fun w h => ⟨(fun _ h => List.mem_cons_of_mem _ (List.mem_append_left _ (List.mem_append_right _ h))) w h, good_of_word (List.all_eq_true.mp zgw_X8 w h)⟩))
set_option maxRecDepth 100000 in
theorem zg_zd_X3_addTemplate_zd_X8_depthAt_37_a : GoodIn zw_zd_X3_addTemplate [.methodLink RX3 37 yX8_depthAt, .instanceMethod yX8_depthAt, .selects RX8 yX8_depthAt yX8_depthAt, .initialized RX8] := goodIn_r _ [19, 20, 21, 7] rfl (by decide +kernel)
set_option maxRecDepth 100000 in
theorem zg_zd_X3_addTemplate_zd_X8_depthAt_37_c : GoodIn zw_zd_X3_addTemplate [.code yX8_depthAt cX8_depthAt 2 (some .int)] := goodIn_r _ [17] rfl (by decide +kernel)
set_option maxRecDepth 100000 in
theorem zg_zd_X3_addTemplate_zd_X8_depthAt_37_0 : GoodIn zw_zd_X3_addTemplate zw_zd_X8_depthAt_w0 := goodIn_r _ [2, 3, 4, 5, 6, 7, 18] rfl (by decide +kernel)
theorem zg_zd_X3_addTemplate_zd_X8_depthAt_37 : GoodIn zw_zd_X3_addTemplate (wsV RX3 37 RX8 yX8_depthAt zw_zd_X8_depthAt) := goodIn_app zg_zd_X3_addTemplate_zd_X8_depthAt_37_a (goodIn_ca (a := (zw_zd_X8_depthAt_w0)) (show GoodIn zw_zd_X3_addTemplate (.code yX8_depthAt cX8_depthAt 2 (some .int) :: (zw_zd_X8_depthAt_w0)) from goodIn_app zg_zd_X3_addTemplate_zd_X8_depthAt_37_c (zg_zd_X3_addTemplate_zd_X8_depthAt_37_0)) (fun w h => ⟨(fun _ h => List.mem_cons_of_mem _ (List.mem_append_left _ (List.mem_append_right _ h))) w h, good_of_word (List.all_eq_true.mp zgw_X8 w h)⟩))
set_option maxRecDepth 100000 in
theorem zg_zd_X3_addTemplate_zd_X3_addReckoning_44_a : GoodIn zw_zd_X3_addTemplate [.methodLink RX3 44 yX3_addReckoning, .instanceMethod yX3_addReckoning, .selects RX3 yX3_addReckoning yX3_addReckoning, .initialized RX3] := goodIn_r _ [30, 31, 32, 29] rfl (by decide +kernel)
set_option maxRecDepth 100000 in
theorem zg_zd_X3_addTemplate_zd_X3_addReckoning_44_c : GoodIn zw_zd_X3_addTemplate [.code yX3_addReckoning cX3_addReckoning 5 none] := goodIn_r _ [22] rfl (by decide +kernel)
set_option maxRecDepth 100000 in
theorem zg_zd_X3_addTemplate_zd_X3_addReckoning_44_0 : GoodIn zw_zd_X3_addTemplate zw_zd_X3_addReckoning_w0 := goodIn_r _ [23, 24, 25, 26, 27, 28, 29] rfl (by decide +kernel)
theorem zg_zd_X3_addTemplate_zd_X3_addReckoning_44 : GoodIn zw_zd_X3_addTemplate (wsV RX3 44 RX3 yX3_addReckoning zw_zd_X3_addReckoning) := goodIn_app zg_zd_X3_addTemplate_zd_X3_addReckoning_44_a (goodIn_ca (a := (zw_zd_X3_addReckoning_w0)) (show GoodIn zw_zd_X3_addTemplate (.code yX3_addReckoning cX3_addReckoning 5 none :: (zw_zd_X3_addReckoning_w0)) from goodIn_app zg_zd_X3_addTemplate_zd_X3_addReckoning_44_c (zg_zd_X3_addTemplate_zd_X3_addReckoning_44_0)) (fun w h => ⟨(fun _ h => List.mem_cons_of_mem _ (List.mem_append_right _ h)) w h, good_of_word (List.all_eq_true.mp zgw_X3 w h)⟩))
set_option maxRecDepth 100000 in
theorem zg_zd_X3_addTemplate_zd_X3_add_40_a : GoodIn zw_zd_X3_addTemplate [.methodLink RX3 40 yX3_add, .instanceMethod yX3_add, .selects RX3 yX3_add yX3_add, .initialized RX3] := goodIn_r _ [26, 27, 28, 29] rfl (by decide +kernel)
set_option maxRecDepth 100000 in
theorem zg_zd_X3_addTemplate_zd_X3_add_40_c : GoodIn zw_zd_X3_addTemplate [.code yX3_add cX3_add 7 none] := goodIn_r _ [23] rfl (by decide +kernel)
set_option maxRecDepth 100000 in
theorem zg_zd_X3_addTemplate_zd_X3_add_40_0 : GoodIn zw_zd_X3_addTemplate zw_zd_X3_add_w0 := goodIn_r _ [24, 25] rfl (by decide +kernel)
theorem zg_zd_X3_addTemplate_zd_X3_add_40 : GoodIn zw_zd_X3_addTemplate (wsV RX3 40 RX3 yX3_add zw_zd_X3_add) := goodIn_app zg_zd_X3_addTemplate_zd_X3_add_40_a (goodIn_ca (a := (zw_zd_X3_add_w0)) (show GoodIn zw_zd_X3_addTemplate (.code yX3_add cX3_add 7 none :: (zw_zd_X3_add_w0)) from goodIn_app zg_zd_X3_addTemplate_zd_X3_add_40_c (zg_zd_X3_addTemplate_zd_X3_add_40_0)) (fun w h => ⟨(fun _ h => List.mem_cons_of_mem _ (List.mem_append_right _ h)) w h, good_of_word (List.all_eq_true.mp zgw_X3 w h)⟩))
set_option maxHeartbeats 16000000 in
set_option maxRecDepth 100000 in
theorem zd_X3_addTemplate (l : Launch) (D : va_G) (cI cZ cP cF : Nat) (q : Nat → Nat → Nat) (S : CST) (i1 : Nat) (a2 : Int32) (sz : Nat) (Post : CST → Prop) (h : wp_X3_addTemplate S i1 a2 Post) : Met l yX3_addTemplate zw_zd_X3_addTemplate ({ frames := 2, cells := 0, slots := 0, locals := 50 }) (va_Pc [.ref (q 7 0), .ref (q 24 i1), .int a2] (fun U => U.heap.size = sz ∧ va_P D vwCl (cW cI cZ cP cF q S) U.heap ∧ zF D cI cZ cP cF U ∧ va_D (fun _ => True) (cW cI cZ cP cF q S))) (va_Qv (fun S' => Post S') (fun (S' : CST) t => va_P D vwCl (cW cI cZ cP cF q S') t.heap ∧ va_D (va_A (cW cI cZ cP cF q S) sz) (cW cI cZ cP cF q S') ∧ S'.2 = S.2) (va_A (cW cI cZ cP cF q S) sz)) 0 0 (va_A (cW cI cZ cP cF q S) sz) := by
  unfold wp_X3_addTemplate at h
  refine Met.ofW (cc := cX3_addTemplate) (maxL := 6) (ret := none) (by decide) rfl ?_
  intro p e s m args below meth c s₁ B hml hv
  obtain ⟨rfl, hsz, hP, hE, hD0⟩ := hv
  have hx := B.exec
  have hb := B.bytes
  have hr := B.returns
  have hts := atoms_spec (ws := zw_zd_X3_addTemplate) B.pre
  have hown : s.vm.findClass RX3 = some m.cls := findClass_of_methodNamed B.named
  have hlocks := B.notSynchronized
  have hK := hE.k
  subst hsz
  have hD := hD0.self (sz := s.heap.size)
  generalize hAe : va_A (cW cI cZ cP cF q S) s.heap.size = A at hD ⊢
  have hA : ∀ q : Nat, s.heap.size ≤ q → A q := fun q h => by rw [← hAe]; exact Or.inr h
  have hN : S.2 = S.2 := rfl
  have hl := lv_entry ([.ref (q 7 0), .ref (q 24 i1), .int a2]) (n := 6) (Nat.le_of_ble_eq_true rfl)
  rw [lg_entry_eq]
  generalize (lg_sl ([.ref (q 7 0), .ref (q 24 i1), .int a2]) ++ List.replicate (6 - (lg_sl ([.ref (q 7 0), .ref (q 24 i1), .int a2])).length) Slot.unset).toArray = ls at hl ⊢
  have hl : lv_has ls 6 [(0, .ref (q 7 0)), (1, .ref (q 24 i1)), (2, .int a2)] := hl
  have key : ∀ (H : Heap) (locs : List Loc), va_P D vwCl (cW cI cZ cP cF q S) H → va_S A s.heap H locs → W p l e (headSpec zw_zd_X3_addTemplate ({ frames := 2, cells := 0, slots := 0, locals := 50 })).room s m ([.ref (q 7 0), .ref (q 24 i1), .int a2] : List Value).toArray below meth c H locs 0 0 (MQ below (va_Qv (fun S' => Post S') (fun (S' : CST) t => va_P D vwCl (cW cI cZ cP cF q S') t.heap ∧ va_D A (cW cI cZ cP cF q S') ∧ S'.2 = S.2) A) ([.ref (q 7 0), .ref (q 24 i1), .int a2] : List Value).toArray s 0 0 A) (F0 m 0 ls []) := by
    intro H locs hP hS
    refine lv_aload_n hx hb dX3_addTemplate_0 rfl (lv_at hl 1 rfl) ?_
    refine lv_iload_n hx hb dX3_addTemplate_1 rfl (lv_at hl 2 rfl) ?_
    have hi_1 := h.1
    have h := h.2
    obtain ⟨p_1, hp_1⟩ := cget_24 cI cZ cP cF q S hi_1
    refine vp_callSi (va_Run.run (va_runV (As := [.int a2]) (rest := []) ⟨hx, hb, hml, hown, hts⟩ (zd_X8_opAt l D cI cZ cP cF q S i1 a2  _ h) (cwV 1 hts zg_zd_X3_addTemplate_zd_X8_opAt_28 rfl rfl rfl (by decide +kernel) ⟨Nat.le_of_ble_eq_true rfl, Nat.le_of_ble_eq_true rfl⟩) ⟨zCR, va_recv hK hP (ci := 8) (q0 := p_1) rfl hp_1, fun U hU hW => ⟨rfl, by rw [hU]; exact hP, hE.warm hW⟩⟩ rfl rfl hl.1 rfl (lv_room (Nat.le_of_ble_eq_true rfl)) dX3_addTemplate_2 ⟨Nat.le_of_ble_eq_true rfl, Nat.le_of_ble_eq_true rfl⟩)) (fun r2 h => ?_)
    refine lv_istore_n (lv' := [(3, .int r2), (0, .ref (q 7 0)), (1, .ref (q 24 i1)), (2, .int a2)]) hx hb dX3_addTemplate_5 rfl hl (by decide) rfl (fun ls hl => ?_)
    refine lv_aload_n hx hb dX3_addTemplate_6 rfl (lv_at hl 2 rfl) ?_
    refine lv_iload_n hx hb dX3_addTemplate_7 rfl (lv_at hl 3 rfl) ?_
    have hi_3 := h.1
    have h := h.2
    obtain ⟨p_3, hp_3⟩ := cget_24 cI cZ cP cF q S hi_3
    refine vp_callSi (va_Run.run (va_runV (As := [.int a2]) (rest := []) ⟨hx, hb, hml, hown, hts⟩ (zd_X8_xAt l D cI cZ cP cF q S i1 a2  _ h) (cwV 1 hts zg_zd_X3_addTemplate_zd_X8_xAt_34 rfl rfl rfl (by decide +kernel) ⟨Nat.le_of_ble_eq_true rfl, Nat.le_of_ble_eq_true rfl⟩) ⟨zCR, va_recv hK hP (ci := 8) (q0 := p_3) rfl hp_3, fun U hU hW => ⟨rfl, by rw [hU]; exact hP, hE.warm hW⟩⟩ rfl rfl hl.1 rfl (lv_room (Nat.le_of_ble_eq_true rfl)) dX3_addTemplate_8 ⟨Nat.le_of_ble_eq_true rfl, Nat.le_of_ble_eq_true rfl⟩)) (fun r4 h => ?_)
    refine lv_istore (lv' := [(4, .int r4), (3, .int r2), (0, .ref (q 7 0)), (1, .ref (q 24 i1)), (2, .int a2)]) hx hb dX3_addTemplate_11 hl (by decide) rfl (fun ls hl => ?_)
    refine lv_bipush (v := 7) hx hb dX3_addTemplate_13 (by decide) ?_
    refine lv_aload_n hx hb dX3_addTemplate_15 rfl (lv_at hl 3 rfl) ?_
    refine lv_iload_n hx hb dX3_addTemplate_16 rfl (lv_at hl 4 rfl) ?_
    have hi_5 := h.1
    have h := h.2
    obtain ⟨p_5, hp_5⟩ := cget_24 cI cZ cP cF q S hi_5
    refine vp_callSi (va_Run.run (va_runV (As := [.int a2]) (rest := [.int 7]) ⟨hx, hb, hml, hown, hts⟩ (zd_X8_depthAt l D cI cZ cP cF q S i1 a2  _ h) (cwV 1 hts zg_zd_X3_addTemplate_zd_X8_depthAt_37 rfl rfl rfl (by decide +kernel) ⟨Nat.le_of_ble_eq_true rfl, Nat.le_of_ble_eq_true rfl⟩) ⟨zCR, va_recv hK hP (ci := 8) (q0 := p_5) rfl hp_5, fun U hU hW => ⟨rfl, by rw [hU]; exact hP, hE.warm hW⟩⟩ rfl rfl hl.1 rfl (lv_room (Nat.le_of_ble_eq_true rfl)) dX3_addTemplate_17 ⟨Nat.le_of_ble_eq_true rfl, Nat.le_of_ble_eq_true rfl⟩)) (fun r6 h => ?_)
    refine lv_iadd hx hb dX3_addTemplate_20 ?_
    refine lv_istore (lv' := [(5, .int (7 + r6)), (4, .int r4), (3, .int r2), (0, .ref (q 7 0)), (1, .ref (q 24 i1)), (2, .int a2)]) hx hb dX3_addTemplate_21 hl (by decide) rfl (fun ls hl => ?_)
    refine lv_iload_n hx hb dX3_addTemplate_23 rfl (lv_at hl 2 rfl) ?_
    rcases zt_0_19 r2 with h_out | h_in | h_in | h_in | h_in | h_in | h_in | h_in | h_in | h_in | h_in | h_in | h_in | h_in | h_in | h_in | h_in | h_in | h_in | h_in | h_in
    · have h := h.1 h_out
      refine lv_tableOut (tgt := 255) hx hb dX3_addTemplate_24 h_out (by decide) ?_
      refine lv_aload_n hx hb dX3_addTemplate_255 rfl (lv_at hl 3 rfl) ?_
      refine lv_iload_n hx hb dX3_addTemplate_256 rfl (lv_at hl 2 rfl) ?_
      refine lv_iload hx hb dX3_addTemplate_257 (lv_at hl 1 rfl) ?_
      refine lv_iload hx hb dX3_addTemplate_259 (lv_at hl 0 rfl) ?_
      refine lv_iload_n hx hb dX3_addTemplate_261 rfl (lv_at hl 5 rfl) ?_
      obtain ⟨p_7, hp_7⟩ := cget_7 cI cZ cP cF q S
      have hi_7 : cin S 7 0 := Or.inl ⟨by decide, rfl⟩
      have hFc := zm_free hD hS hA
      refine va_callv (va_runV (As := [.int r2, .int r4, .int (7 + r6), .int a2]) (rest := []) ⟨hx, hb, hml, hown, hts⟩ (zd_X3_addReckoning l D cI cZ cP cF q S r2 r4 (7 + r6) a2 H.size _ h) (cwV 4 hts zg_zd_X3_addTemplate_zd_X3_addReckoning_44 rfl rfl rfl (by decide +kernel) ⟨Nat.le_of_ble_eq_true rfl, Nat.le_of_ble_eq_true rfl⟩) ⟨zCW, va_recv hK hP (ci := 3) (q0 := p_7) rfl hp_7, fun U hU hW => ⟨rfl, by rw [hU], by rw [hU]; exact hP, hE.warm hW, hD.weaken (fun _ _ _ _ => trivial)⟩⟩ rfl rfl hl.1 rfl (lv_room (Nat.le_of_ble_eq_true rfl)) dX3_addTemplate_262 ⟨Nat.le_of_ble_eq_true rfl, Nat.le_of_ble_eq_true rfl⟩) hS (fun q _ h => hFc q h) hFc (fun S8 t H locs ht hvm h hB hz1 hk1 hS => ?_)
      obtain ⟨hP, hD1, hN1⟩ := hB
      rw [ht] at hP
      have hD := hD1.weaken (fun k q _ hq => hFc q.1 hq)
      have hN := hN1.trans hN
      exact W.vret hx hb hr (fun t ht hW => ⟨⟨S8, rfl, h, by rw [ht]; exact hP, hD, hN⟩, hS.F ht⟩) hS.2.2 dX3_addTemplate_265
    · have h := h.2.1 h_in
      refine lv_tableIn (off := 96) (tgt := 120) hx hb dX3_addTemplate_24 (by rw [h_in]; decide) (by rw [h_in]; decide) (by rw [h_in]; decide) (by decide) ?_
      refine lv_aload_n hx hb dX3_addTemplate_120 rfl (lv_at hl 3 rfl) ?_
      refine lv_iconst (v := 0) hx hb dX3_addTemplate_121 (by decide) ?_
      refine lv_iload hx hb dX3_addTemplate_122 (lv_at hl 0 rfl) ?_
      refine lv_iload hx hb dX3_addTemplate_124 (lv_at hl 1 rfl) ?_
      refine lv_iconst (v := 0) hx hb dX3_addTemplate_126 (by decide) ?_
      refine lv_iload_n hx hb dX3_addTemplate_127 rfl (lv_at hl 5 rfl) ?_
      obtain ⟨p_9, hp_9⟩ := cget_7 cI cZ cP cF q S
      have hi_9 : cin S 7 0 := Or.inl ⟨by decide, rfl⟩
      have hFc := zm_free hD hS hA
      refine va_callv (va_runV (As := [.int 0, .int (7 + r6), .int r4, .int 0, .int a2]) (rest := []) ⟨hx, hb, hml, hown, hts⟩ (zd_X3_add l D cI cZ cP cF q S 0 (7 + r6) r4 0 a2 H.size _ h) (cwV 5 hts zg_zd_X3_addTemplate_zd_X3_add_40 rfl rfl rfl (by decide +kernel) ⟨Nat.le_of_ble_eq_true rfl, Nat.le_of_ble_eq_true rfl⟩) ⟨zCW, va_recv hK hP (ci := 3) (q0 := p_9) rfl hp_9, fun U hU hW => ⟨rfl, by rw [hU], by rw [hU]; exact hP, hE.warm hW, hD.weaken (fun _ _ _ _ => trivial)⟩⟩ rfl rfl hl.1 rfl (lv_room (Nat.le_of_ble_eq_true rfl)) dX3_addTemplate_128 ⟨Nat.le_of_ble_eq_true rfl, Nat.le_of_ble_eq_true rfl⟩) hS (fun q _ h => hFc q h) hFc (fun S10 t H locs ht hvm h hB hz1 hk1 hS => ?_)
      obtain ⟨hP, hD1, hN1⟩ := hB
      rw [ht] at hP
      have hD := hD1.weaken (fun k q _ hq => hFc q.1 hq)
      have hN := hN1.trans hN
      refine lv_goto (tgt := 265) hx hb dX3_addTemplate_131 (by decide) ?_
      exact W.vret hx hb hr (fun t ht hW => ⟨⟨S10, rfl, h, by rw [ht]; exact hP, hD, hN⟩, hS.F ht⟩) hS.2.2 dX3_addTemplate_265
    · have h := h.2.2.1 h_in
      refine lv_tableIn (off := 110) (tgt := 134) hx hb dX3_addTemplate_24 (by rw [h_in]; decide) (by rw [h_in]; decide) (by rw [h_in]; decide) (by decide) ?_
      refine lv_aload_n hx hb dX3_addTemplate_134 rfl (lv_at hl 3 rfl) ?_
      refine lv_iconst (v := 1) hx hb dX3_addTemplate_135 (by decide) ?_
      refine lv_iload hx hb dX3_addTemplate_136 (lv_at hl 0 rfl) ?_
      refine lv_iload hx hb dX3_addTemplate_138 (lv_at hl 1 rfl) ?_
      refine lv_iconst (v := 0) hx hb dX3_addTemplate_140 (by decide) ?_
      refine lv_iload_n hx hb dX3_addTemplate_141 rfl (lv_at hl 5 rfl) ?_
      obtain ⟨p_11, hp_11⟩ := cget_7 cI cZ cP cF q S
      have hi_11 : cin S 7 0 := Or.inl ⟨by decide, rfl⟩
      have hFc := zm_free hD hS hA
      refine va_callv (va_runV (As := [.int 1, .int (7 + r6), .int r4, .int 0, .int a2]) (rest := []) ⟨hx, hb, hml, hown, hts⟩ (zd_X3_add l D cI cZ cP cF q S 1 (7 + r6) r4 0 a2 H.size _ h) (cwV 5 hts zg_zd_X3_addTemplate_zd_X3_add_40 rfl rfl rfl (by decide +kernel) ⟨Nat.le_of_ble_eq_true rfl, Nat.le_of_ble_eq_true rfl⟩) ⟨zCW, va_recv hK hP (ci := 3) (q0 := p_11) rfl hp_11, fun U hU hW => ⟨rfl, by rw [hU], by rw [hU]; exact hP, hE.warm hW, hD.weaken (fun _ _ _ _ => trivial)⟩⟩ rfl rfl hl.1 rfl (lv_room (Nat.le_of_ble_eq_true rfl)) dX3_addTemplate_142 ⟨Nat.le_of_ble_eq_true rfl, Nat.le_of_ble_eq_true rfl⟩) hS (fun q _ h => hFc q h) hFc (fun S12 t H locs ht hvm h hB hz1 hk1 hS => ?_)
      obtain ⟨hP, hD1, hN1⟩ := hB
      rw [ht] at hP
      have hD := hD1.weaken (fun k q _ hq => hFc q.1 hq)
      have hN := hN1.trans hN
      refine lv_goto (tgt := 265) hx hb dX3_addTemplate_145 (by decide) ?_
      exact W.vret hx hb hr (fun t ht hW => ⟨⟨S12, rfl, h, by rw [ht]; exact hP, hD, hN⟩, hS.F ht⟩) hS.2.2 dX3_addTemplate_265
    · have h := h.2.2.2.1 h_in
      refine lv_tableIn (off := 124) (tgt := 148) hx hb dX3_addTemplate_24 (by rw [h_in]; decide) (by rw [h_in]; decide) (by rw [h_in]; decide) (by decide) ?_
      refine lv_aload_n hx hb dX3_addTemplate_148 rfl (lv_at hl 3 rfl) ?_
      refine lv_iconst (v := 1) hx hb dX3_addTemplate_149 (by decide) ?_
      refine lv_iload hx hb dX3_addTemplate_150 (lv_at hl 1 rfl) ?_
      refine lv_iload hx hb dX3_addTemplate_152 (lv_at hl 0 rfl) ?_
      refine lv_iconst (v := 1) hx hb dX3_addTemplate_154 (by decide) ?_
      refine lv_isub hx hb dX3_addTemplate_155 ?_
      refine lv_iconst (v := 0) hx hb dX3_addTemplate_156 (by decide) ?_
      refine lv_iload_n hx hb dX3_addTemplate_157 rfl (lv_at hl 5 rfl) ?_
      obtain ⟨p_13, hp_13⟩ := cget_7 cI cZ cP cF q S
      have hi_13 : cin S 7 0 := Or.inl ⟨by decide, rfl⟩
      have hFc := zm_free hD hS hA
      refine va_callv (va_runV (As := [.int 1, .int r4, .int ((7 + r6) - 1), .int 0, .int a2]) (rest := []) ⟨hx, hb, hml, hown, hts⟩ (zd_X3_add l D cI cZ cP cF q S 1 r4 ((7 + r6) - 1) 0 a2 H.size _ h) (cwV 5 hts zg_zd_X3_addTemplate_zd_X3_add_40 rfl rfl rfl (by decide +kernel) ⟨Nat.le_of_ble_eq_true rfl, Nat.le_of_ble_eq_true rfl⟩) ⟨zCW, va_recv hK hP (ci := 3) (q0 := p_13) rfl hp_13, fun U hU hW => ⟨rfl, by rw [hU], by rw [hU]; exact hP, hE.warm hW, hD.weaken (fun _ _ _ _ => trivial)⟩⟩ rfl rfl hl.1 rfl (lv_room (Nat.le_of_ble_eq_true rfl)) dX3_addTemplate_158 ⟨Nat.le_of_ble_eq_true rfl, Nat.le_of_ble_eq_true rfl⟩) hS (fun q _ h => hFc q h) hFc (fun S14 t H locs ht hvm h hB hz1 hk1 hS => ?_)
      obtain ⟨hP, hD1, hN1⟩ := hB
      rw [ht] at hP
      have hD := hD1.weaken (fun k q _ hq => hFc q.1 hq)
      have hN := hN1.trans hN
      refine lv_goto (tgt := 265) hx hb dX3_addTemplate_161 (by decide) ?_
      exact W.vret hx hb hr (fun t ht hW => ⟨⟨S14, rfl, h, by rw [ht]; exact hP, hD, hN⟩, hS.F ht⟩) hS.2.2 dX3_addTemplate_265
    · have h := h.2.2.2.2.1 h_in
      refine lv_tableIn (off := 231) (tgt := 255) hx hb dX3_addTemplate_24 (by rw [h_in]; decide) (by rw [h_in]; decide) (by rw [h_in]; decide) (by decide) ?_
      refine lv_aload_n hx hb dX3_addTemplate_255 rfl (lv_at hl 3 rfl) ?_
      refine lv_iload_n hx hb dX3_addTemplate_256 rfl (lv_at hl 2 rfl) ?_
      refine lv_iload hx hb dX3_addTemplate_257 (lv_at hl 1 rfl) ?_
      refine lv_iload hx hb dX3_addTemplate_259 (lv_at hl 0 rfl) ?_
      refine lv_iload_n hx hb dX3_addTemplate_261 rfl (lv_at hl 5 rfl) ?_
      obtain ⟨p_15, hp_15⟩ := cget_7 cI cZ cP cF q S
      have hi_15 : cin S 7 0 := Or.inl ⟨by decide, rfl⟩
      have hFc := zm_free hD hS hA
      refine va_callv (va_runV (As := [.int r2, .int r4, .int (7 + r6), .int a2]) (rest := []) ⟨hx, hb, hml, hown, hts⟩ (zd_X3_addReckoning l D cI cZ cP cF q S r2 r4 (7 + r6) a2 H.size _ h) (cwV 4 hts zg_zd_X3_addTemplate_zd_X3_addReckoning_44 rfl rfl rfl (by decide +kernel) ⟨Nat.le_of_ble_eq_true rfl, Nat.le_of_ble_eq_true rfl⟩) ⟨zCW, va_recv hK hP (ci := 3) (q0 := p_15) rfl hp_15, fun U hU hW => ⟨rfl, by rw [hU], by rw [hU]; exact hP, hE.warm hW, hD.weaken (fun _ _ _ _ => trivial)⟩⟩ rfl rfl hl.1 rfl (lv_room (Nat.le_of_ble_eq_true rfl)) dX3_addTemplate_262 ⟨Nat.le_of_ble_eq_true rfl, Nat.le_of_ble_eq_true rfl⟩) hS (fun q _ h => hFc q h) hFc (fun S16 t H locs ht hvm h hB hz1 hk1 hS => ?_)
      obtain ⟨hP, hD1, hN1⟩ := hB
      rw [ht] at hP
      have hD := hD1.weaken (fun k q _ hq => hFc q.1 hq)
      have hN := hN1.trans hN
      exact W.vret hx hb hr (fun t ht hW => ⟨⟨S16, rfl, h, by rw [ht]; exact hP, hD, hN⟩, hS.F ht⟩) hS.2.2 dX3_addTemplate_265
    · have h := h.2.2.2.2.2.1 h_in
      refine lv_tableIn (off := 231) (tgt := 255) hx hb dX3_addTemplate_24 (by rw [h_in]; decide) (by rw [h_in]; decide) (by rw [h_in]; decide) (by decide) ?_
      refine lv_aload_n hx hb dX3_addTemplate_255 rfl (lv_at hl 3 rfl) ?_
      refine lv_iload_n hx hb dX3_addTemplate_256 rfl (lv_at hl 2 rfl) ?_
      refine lv_iload hx hb dX3_addTemplate_257 (lv_at hl 1 rfl) ?_
      refine lv_iload hx hb dX3_addTemplate_259 (lv_at hl 0 rfl) ?_
      refine lv_iload_n hx hb dX3_addTemplate_261 rfl (lv_at hl 5 rfl) ?_
      obtain ⟨p_17, hp_17⟩ := cget_7 cI cZ cP cF q S
      have hi_17 : cin S 7 0 := Or.inl ⟨by decide, rfl⟩
      have hFc := zm_free hD hS hA
      refine va_callv (va_runV (As := [.int r2, .int r4, .int (7 + r6), .int a2]) (rest := []) ⟨hx, hb, hml, hown, hts⟩ (zd_X3_addReckoning l D cI cZ cP cF q S r2 r4 (7 + r6) a2 H.size _ h) (cwV 4 hts zg_zd_X3_addTemplate_zd_X3_addReckoning_44 rfl rfl rfl (by decide +kernel) ⟨Nat.le_of_ble_eq_true rfl, Nat.le_of_ble_eq_true rfl⟩) ⟨zCW, va_recv hK hP (ci := 3) (q0 := p_17) rfl hp_17, fun U hU hW => ⟨rfl, by rw [hU], by rw [hU]; exact hP, hE.warm hW, hD.weaken (fun _ _ _ _ => trivial)⟩⟩ rfl rfl hl.1 rfl (lv_room (Nat.le_of_ble_eq_true rfl)) dX3_addTemplate_262 ⟨Nat.le_of_ble_eq_true rfl, Nat.le_of_ble_eq_true rfl⟩) hS (fun q _ h => hFc q h) hFc (fun S18 t H locs ht hvm h hB hz1 hk1 hS => ?_)
      obtain ⟨hP, hD1, hN1⟩ := hB
      rw [ht] at hP
      have hD := hD1.weaken (fun k q _ hq => hFc q.1 hq)
      have hN := hN1.trans hN
      exact W.vret hx hb hr (fun t ht hW => ⟨⟨S18, rfl, h, by rw [ht]; exact hP, hD, hN⟩, hS.F ht⟩) hS.2.2 dX3_addTemplate_265
    · have h := h.2.2.2.2.2.2.1 h_in
      refine lv_tableIn (off := 231) (tgt := 255) hx hb dX3_addTemplate_24 (by rw [h_in]; decide) (by rw [h_in]; decide) (by rw [h_in]; decide) (by decide) ?_
      refine lv_aload_n hx hb dX3_addTemplate_255 rfl (lv_at hl 3 rfl) ?_
      refine lv_iload_n hx hb dX3_addTemplate_256 rfl (lv_at hl 2 rfl) ?_
      refine lv_iload hx hb dX3_addTemplate_257 (lv_at hl 1 rfl) ?_
      refine lv_iload hx hb dX3_addTemplate_259 (lv_at hl 0 rfl) ?_
      refine lv_iload_n hx hb dX3_addTemplate_261 rfl (lv_at hl 5 rfl) ?_
      obtain ⟨p_19, hp_19⟩ := cget_7 cI cZ cP cF q S
      have hi_19 : cin S 7 0 := Or.inl ⟨by decide, rfl⟩
      have hFc := zm_free hD hS hA
      refine va_callv (va_runV (As := [.int r2, .int r4, .int (7 + r6), .int a2]) (rest := []) ⟨hx, hb, hml, hown, hts⟩ (zd_X3_addReckoning l D cI cZ cP cF q S r2 r4 (7 + r6) a2 H.size _ h) (cwV 4 hts zg_zd_X3_addTemplate_zd_X3_addReckoning_44 rfl rfl rfl (by decide +kernel) ⟨Nat.le_of_ble_eq_true rfl, Nat.le_of_ble_eq_true rfl⟩) ⟨zCW, va_recv hK hP (ci := 3) (q0 := p_19) rfl hp_19, fun U hU hW => ⟨rfl, by rw [hU], by rw [hU]; exact hP, hE.warm hW, hD.weaken (fun _ _ _ _ => trivial)⟩⟩ rfl rfl hl.1 rfl (lv_room (Nat.le_of_ble_eq_true rfl)) dX3_addTemplate_262 ⟨Nat.le_of_ble_eq_true rfl, Nat.le_of_ble_eq_true rfl⟩) hS (fun q _ h => hFc q h) hFc (fun S20 t H locs ht hvm h hB hz1 hk1 hS => ?_)
      obtain ⟨hP, hD1, hN1⟩ := hB
      rw [ht] at hP
      have hD := hD1.weaken (fun k q _ hq => hFc q.1 hq)
      have hN := hN1.trans hN
      exact W.vret hx hb hr (fun t ht hW => ⟨⟨S20, rfl, h, by rw [ht]; exact hP, hD, hN⟩, hS.F ht⟩) hS.2.2 dX3_addTemplate_265
    · have h := h.2.2.2.2.2.2.2.1 h_in
      refine lv_tableIn (off := 231) (tgt := 255) hx hb dX3_addTemplate_24 (by rw [h_in]; decide) (by rw [h_in]; decide) (by rw [h_in]; decide) (by decide) ?_
      refine lv_aload_n hx hb dX3_addTemplate_255 rfl (lv_at hl 3 rfl) ?_
      refine lv_iload_n hx hb dX3_addTemplate_256 rfl (lv_at hl 2 rfl) ?_
      refine lv_iload hx hb dX3_addTemplate_257 (lv_at hl 1 rfl) ?_
      refine lv_iload hx hb dX3_addTemplate_259 (lv_at hl 0 rfl) ?_
      refine lv_iload_n hx hb dX3_addTemplate_261 rfl (lv_at hl 5 rfl) ?_
      obtain ⟨p_21, hp_21⟩ := cget_7 cI cZ cP cF q S
      have hi_21 : cin S 7 0 := Or.inl ⟨by decide, rfl⟩
      have hFc := zm_free hD hS hA
      refine va_callv (va_runV (As := [.int r2, .int r4, .int (7 + r6), .int a2]) (rest := []) ⟨hx, hb, hml, hown, hts⟩ (zd_X3_addReckoning l D cI cZ cP cF q S r2 r4 (7 + r6) a2 H.size _ h) (cwV 4 hts zg_zd_X3_addTemplate_zd_X3_addReckoning_44 rfl rfl rfl (by decide +kernel) ⟨Nat.le_of_ble_eq_true rfl, Nat.le_of_ble_eq_true rfl⟩) ⟨zCW, va_recv hK hP (ci := 3) (q0 := p_21) rfl hp_21, fun U hU hW => ⟨rfl, by rw [hU], by rw [hU]; exact hP, hE.warm hW, hD.weaken (fun _ _ _ _ => trivial)⟩⟩ rfl rfl hl.1 rfl (lv_room (Nat.le_of_ble_eq_true rfl)) dX3_addTemplate_262 ⟨Nat.le_of_ble_eq_true rfl, Nat.le_of_ble_eq_true rfl⟩) hS (fun q _ h => hFc q h) hFc (fun S22 t H locs ht hvm h hB hz1 hk1 hS => ?_)
      obtain ⟨hP, hD1, hN1⟩ := hB
      rw [ht] at hP
      have hD := hD1.weaken (fun k q _ hq => hFc q.1 hq)
      have hN := hN1.trans hN
      exact W.vret hx hb hr (fun t ht hW => ⟨⟨S22, rfl, h, by rw [ht]; exact hP, hD, hN⟩, hS.F ht⟩) hS.2.2 dX3_addTemplate_265
    · have h := h.2.2.2.2.2.2.2.2.1 h_in
      refine lv_tableIn (off := 231) (tgt := 255) hx hb dX3_addTemplate_24 (by rw [h_in]; decide) (by rw [h_in]; decide) (by rw [h_in]; decide) (by decide) ?_
      refine lv_aload_n hx hb dX3_addTemplate_255 rfl (lv_at hl 3 rfl) ?_
      refine lv_iload_n hx hb dX3_addTemplate_256 rfl (lv_at hl 2 rfl) ?_
      refine lv_iload hx hb dX3_addTemplate_257 (lv_at hl 1 rfl) ?_
      refine lv_iload hx hb dX3_addTemplate_259 (lv_at hl 0 rfl) ?_
      refine lv_iload_n hx hb dX3_addTemplate_261 rfl (lv_at hl 5 rfl) ?_
      obtain ⟨p_23, hp_23⟩ := cget_7 cI cZ cP cF q S
      have hi_23 : cin S 7 0 := Or.inl ⟨by decide, rfl⟩
      have hFc := zm_free hD hS hA
      refine va_callv (va_runV (As := [.int r2, .int r4, .int (7 + r6), .int a2]) (rest := []) ⟨hx, hb, hml, hown, hts⟩ (zd_X3_addReckoning l D cI cZ cP cF q S r2 r4 (7 + r6) a2 H.size _ h) (cwV 4 hts zg_zd_X3_addTemplate_zd_X3_addReckoning_44 rfl rfl rfl (by decide +kernel) ⟨Nat.le_of_ble_eq_true rfl, Nat.le_of_ble_eq_true rfl⟩) ⟨zCW, va_recv hK hP (ci := 3) (q0 := p_23) rfl hp_23, fun U hU hW => ⟨rfl, by rw [hU], by rw [hU]; exact hP, hE.warm hW, hD.weaken (fun _ _ _ _ => trivial)⟩⟩ rfl rfl hl.1 rfl (lv_room (Nat.le_of_ble_eq_true rfl)) dX3_addTemplate_262 ⟨Nat.le_of_ble_eq_true rfl, Nat.le_of_ble_eq_true rfl⟩) hS (fun q _ h => hFc q h) hFc (fun S24 t H locs ht hvm h hB hz1 hk1 hS => ?_)
      obtain ⟨hP, hD1, hN1⟩ := hB
      rw [ht] at hP
      have hD := hD1.weaken (fun k q _ hq => hFc q.1 hq)
      have hN := hN1.trans hN
      exact W.vret hx hb hr (fun t ht hW => ⟨⟨S24, rfl, h, by rw [ht]; exact hP, hD, hN⟩, hS.F ht⟩) hS.2.2 dX3_addTemplate_265
    · have h := h.2.2.2.2.2.2.2.2.2.1 h_in
      refine lv_tableIn (off := 231) (tgt := 255) hx hb dX3_addTemplate_24 (by rw [h_in]; decide) (by rw [h_in]; decide) (by rw [h_in]; decide) (by decide) ?_
      refine lv_aload_n hx hb dX3_addTemplate_255 rfl (lv_at hl 3 rfl) ?_
      refine lv_iload_n hx hb dX3_addTemplate_256 rfl (lv_at hl 2 rfl) ?_
      refine lv_iload hx hb dX3_addTemplate_257 (lv_at hl 1 rfl) ?_
      refine lv_iload hx hb dX3_addTemplate_259 (lv_at hl 0 rfl) ?_
      refine lv_iload_n hx hb dX3_addTemplate_261 rfl (lv_at hl 5 rfl) ?_
      obtain ⟨p_25, hp_25⟩ := cget_7 cI cZ cP cF q S
      have hi_25 : cin S 7 0 := Or.inl ⟨by decide, rfl⟩
      have hFc := zm_free hD hS hA
      refine va_callv (va_runV (As := [.int r2, .int r4, .int (7 + r6), .int a2]) (rest := []) ⟨hx, hb, hml, hown, hts⟩ (zd_X3_addReckoning l D cI cZ cP cF q S r2 r4 (7 + r6) a2 H.size _ h) (cwV 4 hts zg_zd_X3_addTemplate_zd_X3_addReckoning_44 rfl rfl rfl (by decide +kernel) ⟨Nat.le_of_ble_eq_true rfl, Nat.le_of_ble_eq_true rfl⟩) ⟨zCW, va_recv hK hP (ci := 3) (q0 := p_25) rfl hp_25, fun U hU hW => ⟨rfl, by rw [hU], by rw [hU]; exact hP, hE.warm hW, hD.weaken (fun _ _ _ _ => trivial)⟩⟩ rfl rfl hl.1 rfl (lv_room (Nat.le_of_ble_eq_true rfl)) dX3_addTemplate_262 ⟨Nat.le_of_ble_eq_true rfl, Nat.le_of_ble_eq_true rfl⟩) hS (fun q _ h => hFc q h) hFc (fun S26 t H locs ht hvm h hB hz1 hk1 hS => ?_)
      obtain ⟨hP, hD1, hN1⟩ := hB
      rw [ht] at hP
      have hD := hD1.weaken (fun k q _ hq => hFc q.1 hq)
      have hN := hN1.trans hN
      exact W.vret hx hb hr (fun t ht hW => ⟨⟨S26, rfl, h, by rw [ht]; exact hP, hD, hN⟩, hS.F ht⟩) hS.2.2 dX3_addTemplate_265
    · have h := h.2.2.2.2.2.2.2.2.2.2.1 h_in
      refine lv_tableIn (off := 140) (tgt := 164) hx hb dX3_addTemplate_24 (by rw [h_in]; decide) (by rw [h_in]; decide) (by rw [h_in]; decide) (by decide) ?_
      refine lv_aload_n hx hb dX3_addTemplate_164 rfl (lv_at hl 3 rfl) ?_
      refine lv_bipush (v := 8) hx hb dX3_addTemplate_165 (by decide) ?_
      refine lv_iload hx hb dX3_addTemplate_167 (lv_at hl 1 rfl) ?_
      refine lv_iconst (v := 0) hx hb dX3_addTemplate_169 (by decide) ?_
      refine lv_iconst (v := 0) hx hb dX3_addTemplate_170 (by decide) ?_
      refine lv_iload_n hx hb dX3_addTemplate_171 rfl (lv_at hl 5 rfl) ?_
      obtain ⟨p_27, hp_27⟩ := cget_7 cI cZ cP cF q S
      have hi_27 : cin S 7 0 := Or.inl ⟨by decide, rfl⟩
      have hFc := zm_free hD hS hA
      refine va_callv (va_runV (As := [.int 8, .int r4, .int 0, .int 0, .int a2]) (rest := []) ⟨hx, hb, hml, hown, hts⟩ (zd_X3_add l D cI cZ cP cF q S 8 r4 0 0 a2 H.size _ h) (cwV 5 hts zg_zd_X3_addTemplate_zd_X3_add_40 rfl rfl rfl (by decide +kernel) ⟨Nat.le_of_ble_eq_true rfl, Nat.le_of_ble_eq_true rfl⟩) ⟨zCW, va_recv hK hP (ci := 3) (q0 := p_27) rfl hp_27, fun U hU hW => ⟨rfl, by rw [hU], by rw [hU]; exact hP, hE.warm hW, hD.weaken (fun _ _ _ _ => trivial)⟩⟩ rfl rfl hl.1 rfl (lv_room (Nat.le_of_ble_eq_true rfl)) dX3_addTemplate_172 ⟨Nat.le_of_ble_eq_true rfl, Nat.le_of_ble_eq_true rfl⟩) hS (fun q _ h => hFc q h) hFc (fun S28 t H locs ht hvm h hB hz1 hk1 hS => ?_)
      obtain ⟨hP, hD1, hN1⟩ := hB
      rw [ht] at hP
      have hD := hD1.weaken (fun k q _ hq => hFc q.1 hq)
      have hN := hN1.trans hN
      refine lv_goto (tgt := 265) hx hb dX3_addTemplate_175 (by decide) ?_
      exact W.vret hx hb hr (fun t ht hW => ⟨⟨S28, rfl, h, by rw [ht]; exact hP, hD, hN⟩, hS.F ht⟩) hS.2.2 dX3_addTemplate_265
    · have h := h.2.2.2.2.2.2.2.2.2.2.2.1 h_in
      refine lv_tableIn (off := 154) (tgt := 178) hx hb dX3_addTemplate_24 (by rw [h_in]; decide) (by rw [h_in]; decide) (by rw [h_in]; decide) (by decide) ?_
      refine lv_aload_n hx hb dX3_addTemplate_178 rfl (lv_at hl 3 rfl) ?_
      refine lv_bipush (v := 9) hx hb dX3_addTemplate_179 (by decide) ?_
      refine lv_iload hx hb dX3_addTemplate_181 (lv_at hl 1 rfl) ?_
      refine lv_iload hx hb dX3_addTemplate_183 (lv_at hl 0 rfl) ?_
      refine lv_iconst (v := 1) hx hb dX3_addTemplate_185 (by decide) ?_
      refine lv_isub hx hb dX3_addTemplate_186 ?_
      refine lv_iconst (v := 0) hx hb dX3_addTemplate_187 (by decide) ?_
      refine lv_iload_n hx hb dX3_addTemplate_188 rfl (lv_at hl 5 rfl) ?_
      obtain ⟨p_29, hp_29⟩ := cget_7 cI cZ cP cF q S
      have hi_29 : cin S 7 0 := Or.inl ⟨by decide, rfl⟩
      have hFc := zm_free hD hS hA
      refine va_callv (va_runV (As := [.int 9, .int r4, .int ((7 + r6) - 1), .int 0, .int a2]) (rest := []) ⟨hx, hb, hml, hown, hts⟩ (zd_X3_add l D cI cZ cP cF q S 9 r4 ((7 + r6) - 1) 0 a2 H.size _ h) (cwV 5 hts zg_zd_X3_addTemplate_zd_X3_add_40 rfl rfl rfl (by decide +kernel) ⟨Nat.le_of_ble_eq_true rfl, Nat.le_of_ble_eq_true rfl⟩) ⟨zCW, va_recv hK hP (ci := 3) (q0 := p_29) rfl hp_29, fun U hU hW => ⟨rfl, by rw [hU], by rw [hU]; exact hP, hE.warm hW, hD.weaken (fun _ _ _ _ => trivial)⟩⟩ rfl rfl hl.1 rfl (lv_room (Nat.le_of_ble_eq_true rfl)) dX3_addTemplate_189 ⟨Nat.le_of_ble_eq_true rfl, Nat.le_of_ble_eq_true rfl⟩) hS (fun q _ h => hFc q h) hFc (fun S30 t H locs ht hvm h hB hz1 hk1 hS => ?_)
      obtain ⟨hP, hD1, hN1⟩ := hB
      rw [ht] at hP
      have hD := hD1.weaken (fun k q _ hq => hFc q.1 hq)
      have hN := hN1.trans hN
      refine lv_goto (tgt := 265) hx hb dX3_addTemplate_192 (by decide) ?_
      exact W.vret hx hb hr (fun t ht hW => ⟨⟨S30, rfl, h, by rw [ht]; exact hP, hD, hN⟩, hS.F ht⟩) hS.2.2 dX3_addTemplate_265
    · have h := h.2.2.2.2.2.2.2.2.2.2.2.2.1 h_in
      refine lv_tableIn (off := 171) (tgt := 195) hx hb dX3_addTemplate_24 (by rw [h_in]; decide) (by rw [h_in]; decide) (by rw [h_in]; decide) (by decide) ?_
      refine lv_aload_n hx hb dX3_addTemplate_195 rfl (lv_at hl 3 rfl) ?_
      refine lv_bipush (v := 10) hx hb dX3_addTemplate_196 (by decide) ?_
      refine lv_bipush (v := 7) hx hb dX3_addTemplate_198 (by decide) ?_
      refine lv_aload_n hx hb dX3_addTemplate_200 rfl (lv_at hl 4 rfl) ?_
      refine lv_iload_n hx hb dX3_addTemplate_201 rfl (lv_at hl 5 rfl) ?_
      refine lv_iconst (v := 1) hx hb dX3_addTemplate_202 (by decide) ?_
      refine lv_iadd hx hb dX3_addTemplate_203 ?_
      have hi_31 := h.1
      have h := h.2
      obtain ⟨p_31, hp_31⟩ := cget_24 cI cZ cP cF q S hi_31
      refine vp_callSi (va_Run.run (va_runV (As := [.int (a2 + 1)]) (rest := [.int 7, .int 10, .ref (q 7 0)]) ⟨hx, hb, hml, hown, hts⟩ (zd_X8_depthAt l D cI cZ cP cF q S i1 (a2 + 1)  _ h) (cwV 1 hts zg_zd_X3_addTemplate_zd_X8_depthAt_37 rfl rfl rfl (by decide +kernel) ⟨Nat.le_of_ble_eq_true rfl, Nat.le_of_ble_eq_true rfl⟩) ⟨zCR, va_recv hK hP (ci := 8) (q0 := p_31) rfl hp_31, fun U hU hW => ⟨rfl, by rw [hU]; exact hP, hE.warm hW⟩⟩ rfl rfl hl.1 rfl (lv_room (Nat.le_of_ble_eq_true rfl)) dX3_addTemplate_204 ⟨Nat.le_of_ble_eq_true rfl, Nat.le_of_ble_eq_true rfl⟩)) (fun r32 h => ?_)
      refine lv_iadd hx hb dX3_addTemplate_207 ?_
      refine lv_iconst (v := 1) hx hb dX3_addTemplate_208 (by decide) ?_
      refine lv_isub hx hb dX3_addTemplate_209 ?_
      refine lv_iload hx hb dX3_addTemplate_210 (lv_at hl 1 rfl) ?_
      refine lv_iconst (v := 0) hx hb dX3_addTemplate_212 (by decide) ?_
      refine lv_iload_n hx hb dX3_addTemplate_213 rfl (lv_at hl 5 rfl) ?_
      obtain ⟨p_33, hp_33⟩ := cget_7 cI cZ cP cF q S
      have hi_33 : cin S 7 0 := Or.inl ⟨by decide, rfl⟩
      have hFc := zm_free hD hS hA
      refine va_callv (va_runV (As := [.int 10, .int ((7 + r32) - 1), .int r4, .int 0, .int a2]) (rest := []) ⟨hx, hb, hml, hown, hts⟩ (zd_X3_add l D cI cZ cP cF q S 10 ((7 + r32) - 1) r4 0 a2 H.size _ h) (cwV 5 hts zg_zd_X3_addTemplate_zd_X3_add_40 rfl rfl rfl (by decide +kernel) ⟨Nat.le_of_ble_eq_true rfl, Nat.le_of_ble_eq_true rfl⟩) ⟨zCW, va_recv hK hP (ci := 3) (q0 := p_33) rfl hp_33, fun U hU hW => ⟨rfl, by rw [hU], by rw [hU]; exact hP, hE.warm hW, hD.weaken (fun _ _ _ _ => trivial)⟩⟩ rfl rfl hl.1 rfl (lv_room (Nat.le_of_ble_eq_true rfl)) dX3_addTemplate_214 ⟨Nat.le_of_ble_eq_true rfl, Nat.le_of_ble_eq_true rfl⟩) hS (fun q _ h => hFc q h) hFc (fun S34 t H locs ht hvm h hB hz1 hk1 hS => ?_)
      obtain ⟨hP, hD1, hN1⟩ := hB
      rw [ht] at hP
      have hD := hD1.weaken (fun k q _ hq => hFc q.1 hq)
      have hN := hN1.trans hN
      refine lv_goto (tgt := 265) hx hb dX3_addTemplate_217 (by decide) ?_
      exact W.vret hx hb hr (fun t ht hW => ⟨⟨S34, rfl, h, by rw [ht]; exact hP, hD, hN⟩, hS.F ht⟩) hS.2.2 dX3_addTemplate_265
    · have h := h.2.2.2.2.2.2.2.2.2.2.2.2.2.1 h_in
      refine lv_tableIn (off := 196) (tgt := 220) hx hb dX3_addTemplate_24 (by rw [h_in]; decide) (by rw [h_in]; decide) (by rw [h_in]; decide) (by decide) ?_
      refine lv_aload_n hx hb dX3_addTemplate_220 rfl (lv_at hl 3 rfl) ?_
      refine lv_bipush (v := 11) hx hb dX3_addTemplate_221 (by decide) ?_
      refine lv_iconst (v := 0) hx hb dX3_addTemplate_223 (by decide) ?_
      refine lv_iload hx hb dX3_addTemplate_224 (lv_at hl 0 rfl) ?_
      refine lv_iconst (v := 1) hx hb dX3_addTemplate_226 (by decide) ?_
      refine lv_isub hx hb dX3_addTemplate_227 ?_
      refine lv_iconst (v := 0) hx hb dX3_addTemplate_228 (by decide) ?_
      refine lv_iload_n hx hb dX3_addTemplate_229 rfl (lv_at hl 5 rfl) ?_
      obtain ⟨p_35, hp_35⟩ := cget_7 cI cZ cP cF q S
      have hi_35 : cin S 7 0 := Or.inl ⟨by decide, rfl⟩
      have hFc := zm_free hD hS hA
      refine va_callv (va_runV (As := [.int 11, .int 0, .int ((7 + r6) - 1), .int 0, .int a2]) (rest := []) ⟨hx, hb, hml, hown, hts⟩ (zd_X3_add l D cI cZ cP cF q S 11 0 ((7 + r6) - 1) 0 a2 H.size _ h) (cwV 5 hts zg_zd_X3_addTemplate_zd_X3_add_40 rfl rfl rfl (by decide +kernel) ⟨Nat.le_of_ble_eq_true rfl, Nat.le_of_ble_eq_true rfl⟩) ⟨zCW, va_recv hK hP (ci := 3) (q0 := p_35) rfl hp_35, fun U hU hW => ⟨rfl, by rw [hU], by rw [hU]; exact hP, hE.warm hW, hD.weaken (fun _ _ _ _ => trivial)⟩⟩ rfl rfl hl.1 rfl (lv_room (Nat.le_of_ble_eq_true rfl)) dX3_addTemplate_230 ⟨Nat.le_of_ble_eq_true rfl, Nat.le_of_ble_eq_true rfl⟩) hS (fun q _ h => hFc q h) hFc (fun S36 t H locs ht hvm h hB hz1 hk1 hS => ?_)
      obtain ⟨hP, hD1, hN1⟩ := hB
      rw [ht] at hP
      have hD := hD1.weaken (fun k q _ hq => hFc q.1 hq)
      have hN := hN1.trans hN
      refine lv_goto (tgt := 265) hx hb dX3_addTemplate_233 (by decide) ?_
      exact W.vret hx hb hr (fun t ht hW => ⟨⟨S36, rfl, h, by rw [ht]; exact hP, hD, hN⟩, hS.F ht⟩) hS.2.2 dX3_addTemplate_265
    · have h := h.2.2.2.2.2.2.2.2.2.2.2.2.2.2.1 h_in
      refine lv_tableIn (off := 231) (tgt := 255) hx hb dX3_addTemplate_24 (by rw [h_in]; decide) (by rw [h_in]; decide) (by rw [h_in]; decide) (by decide) ?_
      refine lv_aload_n hx hb dX3_addTemplate_255 rfl (lv_at hl 3 rfl) ?_
      refine lv_iload_n hx hb dX3_addTemplate_256 rfl (lv_at hl 2 rfl) ?_
      refine lv_iload hx hb dX3_addTemplate_257 (lv_at hl 1 rfl) ?_
      refine lv_iload hx hb dX3_addTemplate_259 (lv_at hl 0 rfl) ?_
      refine lv_iload_n hx hb dX3_addTemplate_261 rfl (lv_at hl 5 rfl) ?_
      obtain ⟨p_37, hp_37⟩ := cget_7 cI cZ cP cF q S
      have hi_37 : cin S 7 0 := Or.inl ⟨by decide, rfl⟩
      have hFc := zm_free hD hS hA
      refine va_callv (va_runV (As := [.int r2, .int r4, .int (7 + r6), .int a2]) (rest := []) ⟨hx, hb, hml, hown, hts⟩ (zd_X3_addReckoning l D cI cZ cP cF q S r2 r4 (7 + r6) a2 H.size _ h) (cwV 4 hts zg_zd_X3_addTemplate_zd_X3_addReckoning_44 rfl rfl rfl (by decide +kernel) ⟨Nat.le_of_ble_eq_true rfl, Nat.le_of_ble_eq_true rfl⟩) ⟨zCW, va_recv hK hP (ci := 3) (q0 := p_37) rfl hp_37, fun U hU hW => ⟨rfl, by rw [hU], by rw [hU]; exact hP, hE.warm hW, hD.weaken (fun _ _ _ _ => trivial)⟩⟩ rfl rfl hl.1 rfl (lv_room (Nat.le_of_ble_eq_true rfl)) dX3_addTemplate_262 ⟨Nat.le_of_ble_eq_true rfl, Nat.le_of_ble_eq_true rfl⟩) hS (fun q _ h => hFc q h) hFc (fun S38 t H locs ht hvm h hB hz1 hk1 hS => ?_)
      obtain ⟨hP, hD1, hN1⟩ := hB
      rw [ht] at hP
      have hD := hD1.weaken (fun k q _ hq => hFc q.1 hq)
      have hN := hN1.trans hN
      exact W.vret hx hb hr (fun t ht hW => ⟨⟨S38, rfl, h, by rw [ht]; exact hP, hD, hN⟩, hS.F ht⟩) hS.2.2 dX3_addTemplate_265
    · have h := h.2.2.2.2.2.2.2.2.2.2.2.2.2.2.2.1 h_in
      refine lv_tableIn (off := 231) (tgt := 255) hx hb dX3_addTemplate_24 (by rw [h_in]; decide) (by rw [h_in]; decide) (by rw [h_in]; decide) (by decide) ?_
      refine lv_aload_n hx hb dX3_addTemplate_255 rfl (lv_at hl 3 rfl) ?_
      refine lv_iload_n hx hb dX3_addTemplate_256 rfl (lv_at hl 2 rfl) ?_
      refine lv_iload hx hb dX3_addTemplate_257 (lv_at hl 1 rfl) ?_
      refine lv_iload hx hb dX3_addTemplate_259 (lv_at hl 0 rfl) ?_
      refine lv_iload_n hx hb dX3_addTemplate_261 rfl (lv_at hl 5 rfl) ?_
      obtain ⟨p_39, hp_39⟩ := cget_7 cI cZ cP cF q S
      have hi_39 : cin S 7 0 := Or.inl ⟨by decide, rfl⟩
      have hFc := zm_free hD hS hA
      refine va_callv (va_runV (As := [.int r2, .int r4, .int (7 + r6), .int a2]) (rest := []) ⟨hx, hb, hml, hown, hts⟩ (zd_X3_addReckoning l D cI cZ cP cF q S r2 r4 (7 + r6) a2 H.size _ h) (cwV 4 hts zg_zd_X3_addTemplate_zd_X3_addReckoning_44 rfl rfl rfl (by decide +kernel) ⟨Nat.le_of_ble_eq_true rfl, Nat.le_of_ble_eq_true rfl⟩) ⟨zCW, va_recv hK hP (ci := 3) (q0 := p_39) rfl hp_39, fun U hU hW => ⟨rfl, by rw [hU], by rw [hU]; exact hP, hE.warm hW, hD.weaken (fun _ _ _ _ => trivial)⟩⟩ rfl rfl hl.1 rfl (lv_room (Nat.le_of_ble_eq_true rfl)) dX3_addTemplate_262 ⟨Nat.le_of_ble_eq_true rfl, Nat.le_of_ble_eq_true rfl⟩) hS (fun q _ h => hFc q h) hFc (fun S40 t H locs ht hvm h hB hz1 hk1 hS => ?_)
      obtain ⟨hP, hD1, hN1⟩ := hB
      rw [ht] at hP
      have hD := hD1.weaken (fun k q _ hq => hFc q.1 hq)
      have hN := hN1.trans hN
      exact W.vret hx hb hr (fun t ht hW => ⟨⟨S40, rfl, h, by rw [ht]; exact hP, hD, hN⟩, hS.F ht⟩) hS.2.2 dX3_addTemplate_265
    · have h := h.2.2.2.2.2.2.2.2.2.2.2.2.2.2.2.2.1 h_in
      refine lv_tableIn (off := 231) (tgt := 255) hx hb dX3_addTemplate_24 (by rw [h_in]; decide) (by rw [h_in]; decide) (by rw [h_in]; decide) (by decide) ?_
      refine lv_aload_n hx hb dX3_addTemplate_255 rfl (lv_at hl 3 rfl) ?_
      refine lv_iload_n hx hb dX3_addTemplate_256 rfl (lv_at hl 2 rfl) ?_
      refine lv_iload hx hb dX3_addTemplate_257 (lv_at hl 1 rfl) ?_
      refine lv_iload hx hb dX3_addTemplate_259 (lv_at hl 0 rfl) ?_
      refine lv_iload_n hx hb dX3_addTemplate_261 rfl (lv_at hl 5 rfl) ?_
      obtain ⟨p_41, hp_41⟩ := cget_7 cI cZ cP cF q S
      have hi_41 : cin S 7 0 := Or.inl ⟨by decide, rfl⟩
      have hFc := zm_free hD hS hA
      refine va_callv (va_runV (As := [.int r2, .int r4, .int (7 + r6), .int a2]) (rest := []) ⟨hx, hb, hml, hown, hts⟩ (zd_X3_addReckoning l D cI cZ cP cF q S r2 r4 (7 + r6) a2 H.size _ h) (cwV 4 hts zg_zd_X3_addTemplate_zd_X3_addReckoning_44 rfl rfl rfl (by decide +kernel) ⟨Nat.le_of_ble_eq_true rfl, Nat.le_of_ble_eq_true rfl⟩) ⟨zCW, va_recv hK hP (ci := 3) (q0 := p_41) rfl hp_41, fun U hU hW => ⟨rfl, by rw [hU], by rw [hU]; exact hP, hE.warm hW, hD.weaken (fun _ _ _ _ => trivial)⟩⟩ rfl rfl hl.1 rfl (lv_room (Nat.le_of_ble_eq_true rfl)) dX3_addTemplate_262 ⟨Nat.le_of_ble_eq_true rfl, Nat.le_of_ble_eq_true rfl⟩) hS (fun q _ h => hFc q h) hFc (fun S42 t H locs ht hvm h hB hz1 hk1 hS => ?_)
      obtain ⟨hP, hD1, hN1⟩ := hB
      rw [ht] at hP
      have hD := hD1.weaken (fun k q _ hq => hFc q.1 hq)
      have hN := hN1.trans hN
      exact W.vret hx hb hr (fun t ht hW => ⟨⟨S42, rfl, h, by rw [ht]; exact hP, hD, hN⟩, hS.F ht⟩) hS.2.2 dX3_addTemplate_265
    · have h := h.2.2.2.2.2.2.2.2.2.2.2.2.2.2.2.2.2.1 h_in
      refine lv_tableIn (off := 231) (tgt := 255) hx hb dX3_addTemplate_24 (by rw [h_in]; decide) (by rw [h_in]; decide) (by rw [h_in]; decide) (by decide) ?_
      refine lv_aload_n hx hb dX3_addTemplate_255 rfl (lv_at hl 3 rfl) ?_
      refine lv_iload_n hx hb dX3_addTemplate_256 rfl (lv_at hl 2 rfl) ?_
      refine lv_iload hx hb dX3_addTemplate_257 (lv_at hl 1 rfl) ?_
      refine lv_iload hx hb dX3_addTemplate_259 (lv_at hl 0 rfl) ?_
      refine lv_iload_n hx hb dX3_addTemplate_261 rfl (lv_at hl 5 rfl) ?_
      obtain ⟨p_43, hp_43⟩ := cget_7 cI cZ cP cF q S
      have hi_43 : cin S 7 0 := Or.inl ⟨by decide, rfl⟩
      have hFc := zm_free hD hS hA
      refine va_callv (va_runV (As := [.int r2, .int r4, .int (7 + r6), .int a2]) (rest := []) ⟨hx, hb, hml, hown, hts⟩ (zd_X3_addReckoning l D cI cZ cP cF q S r2 r4 (7 + r6) a2 H.size _ h) (cwV 4 hts zg_zd_X3_addTemplate_zd_X3_addReckoning_44 rfl rfl rfl (by decide +kernel) ⟨Nat.le_of_ble_eq_true rfl, Nat.le_of_ble_eq_true rfl⟩) ⟨zCW, va_recv hK hP (ci := 3) (q0 := p_43) rfl hp_43, fun U hU hW => ⟨rfl, by rw [hU], by rw [hU]; exact hP, hE.warm hW, hD.weaken (fun _ _ _ _ => trivial)⟩⟩ rfl rfl hl.1 rfl (lv_room (Nat.le_of_ble_eq_true rfl)) dX3_addTemplate_262 ⟨Nat.le_of_ble_eq_true rfl, Nat.le_of_ble_eq_true rfl⟩) hS (fun q _ h => hFc q h) hFc (fun S44 t H locs ht hvm h hB hz1 hk1 hS => ?_)
      obtain ⟨hP, hD1, hN1⟩ := hB
      rw [ht] at hP
      have hD := hD1.weaken (fun k q _ hq => hFc q.1 hq)
      have hN := hN1.trans hN
      exact W.vret hx hb hr (fun t ht hW => ⟨⟨S44, rfl, h, by rw [ht]; exact hP, hD, hN⟩, hS.F ht⟩) hS.2.2 dX3_addTemplate_265
    · have h := h.2.2.2.2.2.2.2.2.2.2.2.2.2.2.2.2.2.2.1 h_in
      refine lv_tableIn (off := 231) (tgt := 255) hx hb dX3_addTemplate_24 (by rw [h_in]; decide) (by rw [h_in]; decide) (by rw [h_in]; decide) (by decide) ?_
      refine lv_aload_n hx hb dX3_addTemplate_255 rfl (lv_at hl 3 rfl) ?_
      refine lv_iload_n hx hb dX3_addTemplate_256 rfl (lv_at hl 2 rfl) ?_
      refine lv_iload hx hb dX3_addTemplate_257 (lv_at hl 1 rfl) ?_
      refine lv_iload hx hb dX3_addTemplate_259 (lv_at hl 0 rfl) ?_
      refine lv_iload_n hx hb dX3_addTemplate_261 rfl (lv_at hl 5 rfl) ?_
      obtain ⟨p_45, hp_45⟩ := cget_7 cI cZ cP cF q S
      have hi_45 : cin S 7 0 := Or.inl ⟨by decide, rfl⟩
      have hFc := zm_free hD hS hA
      refine va_callv (va_runV (As := [.int r2, .int r4, .int (7 + r6), .int a2]) (rest := []) ⟨hx, hb, hml, hown, hts⟩ (zd_X3_addReckoning l D cI cZ cP cF q S r2 r4 (7 + r6) a2 H.size _ h) (cwV 4 hts zg_zd_X3_addTemplate_zd_X3_addReckoning_44 rfl rfl rfl (by decide +kernel) ⟨Nat.le_of_ble_eq_true rfl, Nat.le_of_ble_eq_true rfl⟩) ⟨zCW, va_recv hK hP (ci := 3) (q0 := p_45) rfl hp_45, fun U hU hW => ⟨rfl, by rw [hU], by rw [hU]; exact hP, hE.warm hW, hD.weaken (fun _ _ _ _ => trivial)⟩⟩ rfl rfl hl.1 rfl (lv_room (Nat.le_of_ble_eq_true rfl)) dX3_addTemplate_262 ⟨Nat.le_of_ble_eq_true rfl, Nat.le_of_ble_eq_true rfl⟩) hS (fun q _ h => hFc q h) hFc (fun S46 t H locs ht hvm h hB hz1 hk1 hS => ?_)
      obtain ⟨hP, hD1, hN1⟩ := hB
      rw [ht] at hP
      have hD := hD1.weaken (fun k q _ hq => hFc q.1 hq)
      have hN := hN1.trans hN
      exact W.vret hx hb hr (fun t ht hW => ⟨⟨S46, rfl, h, by rw [ht]; exact hP, hD, hN⟩, hS.F ht⟩) hS.2.2 dX3_addTemplate_265
    · have h := h.2.2.2.2.2.2.2.2.2.2.2.2.2.2.2.2.2.2.2.1 h_in
      refine lv_tableIn (off := 215) (tgt := 239) hx hb dX3_addTemplate_24 (by rw [h_in]; decide) (by rw [h_in]; decide) (by rw [h_in]; decide) (by decide) ?_
      refine lv_aload_n hx hb dX3_addTemplate_239 rfl (lv_at hl 3 rfl) ?_
      refine lv_iconst (v := 1) hx hb dX3_addTemplate_240 (by decide) ?_
      refine lv_iload hx hb dX3_addTemplate_241 (lv_at hl 0 rfl) ?_
      refine lv_iload hx hb dX3_addTemplate_243 (lv_at hl 0 rfl) ?_
      refine lv_iconst (v := 1) hx hb dX3_addTemplate_245 (by decide) ?_
      refine lv_isub hx hb dX3_addTemplate_246 ?_
      refine lv_iconst (v := 0) hx hb dX3_addTemplate_247 (by decide) ?_
      refine lv_iload_n hx hb dX3_addTemplate_248 rfl (lv_at hl 5 rfl) ?_
      obtain ⟨p_47, hp_47⟩ := cget_7 cI cZ cP cF q S
      have hi_47 : cin S 7 0 := Or.inl ⟨by decide, rfl⟩
      have hFc := zm_free hD hS hA
      refine va_callv (va_runV (As := [.int 1, .int (7 + r6), .int ((7 + r6) - 1), .int 0, .int a2]) (rest := []) ⟨hx, hb, hml, hown, hts⟩ (zd_X3_add l D cI cZ cP cF q S 1 (7 + r6) ((7 + r6) - 1) 0 a2 H.size _ h) (cwV 5 hts zg_zd_X3_addTemplate_zd_X3_add_40 rfl rfl rfl (by decide +kernel) ⟨Nat.le_of_ble_eq_true rfl, Nat.le_of_ble_eq_true rfl⟩) ⟨zCW, va_recv hK hP (ci := 3) (q0 := p_47) rfl hp_47, fun U hU hW => ⟨rfl, by rw [hU], by rw [hU]; exact hP, hE.warm hW, hD.weaken (fun _ _ _ _ => trivial)⟩⟩ rfl rfl hl.1 rfl (lv_room (Nat.le_of_ble_eq_true rfl)) dX3_addTemplate_249 ⟨Nat.le_of_ble_eq_true rfl, Nat.le_of_ble_eq_true rfl⟩) hS (fun q _ h => hFc q h) hFc (fun S48 t H locs ht hvm h hB hz1 hk1 hS => ?_)
      obtain ⟨hP, hD1, hN1⟩ := hB
      rw [ht] at hP
      have hD := hD1.weaken (fun k q _ hq => hFc q.1 hq)
      have hN := hN1.trans hN
      refine lv_goto (tgt := 265) hx hb dX3_addTemplate_252 (by decide) ?_
      exact W.vret hx hb hr (fun t ht hW => ⟨⟨S48, rfl, h, by rw [ht]; exact hP, hD, hN⟩, hS.F ht⟩) hS.2.2 dX3_addTemplate_265
    · have h := h.2.2.2.2.2.2.2.2.2.2.2.2.2.2.2.2.2.2.2.2 h_in
      refine lv_tableIn (off := 212) (tgt := 236) hx hb dX3_addTemplate_24 (by rw [h_in]; decide) (by rw [h_in]; decide) (by rw [h_in]; decide) (by decide) ?_
      refine lv_goto (tgt := 265) hx hb dX3_addTemplate_236 (by decide) ?_
      exact W.vret hx hb hr (fun t ht hW => ⟨⟨S, rfl, h, by rw [ht]; exact hP, hD, hN⟩, hS.F ht⟩) hS.2.2 dX3_addTemplate_265
  exact key _ _ hP va_S.rf

def wp_X9_wantsTemplate (S : CST) (i1 : Nat) (a2 : Int32) (Post : CST → Int32 → Prop) : Prop :=
  cin S 24 i1 ∧ (wp_X8_opAt S i1 a2 (fun r2 => cin S 24 i1 ∧ (wp_X8_xAt S i1 a2 (fun r4 => cin S 24 i1 ∧ (wp_X8_depthAt S i1 a2 (fun r6 => ((r2 : Int32).toInt < 0 ∨ 19 < (r2 : Int32).toInt → (wp_X9_isResultKnown S ((r2 - 3) + 2) ((7 + r6) - 2) ((7 + r6) - 1) a2 (fun S8 r8 => ((¬ ((r8 : Int32) = 0)) → (Post S8 0)) ∧ (((r8 : Int32) = 0) → (Post S8 1))))) ∧ (r2 = 0 → (wp_X9_know S (7 + r6) r4 (fun S11 => Post S11 0))) ∧ (r2 = 1 → (wp_X9_isCopyKnown S r4 (7 + r6) (fun S13 r13 => ((¬ ((r13 : Int32) = 0)) → (Post S13 0)) ∧ (((r13 : Int32) = 0) → (Post S13 1))))) ∧ (r2 = 2 → (wp_X9_isStoredKnown S r4 ((7 + r6) - 1) a2 (fun S16 r16 => ((¬ ((r16 : Int32) = 0)) → (Post S16 0)) ∧ (((r16 : Int32) = 0) → (Post S16 1))))) ∧ (r2 = 3 → (wp_X9_isResultKnown S ((r2 - 3) + 2) ((7 + r6) - 2) ((7 + r6) - 1) a2 (fun S19 r19 => ((¬ ((r19 : Int32) = 0)) → (Post S19 0)) ∧ (((r19 : Int32) = 0) → (Post S19 1))))) ∧ (r2 = 4 → (wp_X9_isResultKnown S ((r2 - 3) + 2) ((7 + r6) - 2) ((7 + r6) - 1) a2 (fun S22 r22 => ((¬ ((r22 : Int32) = 0)) → (Post S22 0)) ∧ (((r22 : Int32) = 0) → (Post S22 1))))) ∧ (r2 = 5 → (wp_X9_isResultKnown S ((r2 - 3) + 2) ((7 + r6) - 2) ((7 + r6) - 1) a2 (fun S25 r25 => ((¬ ((r25 : Int32) = 0)) → (Post S25 0)) ∧ (((r25 : Int32) = 0) → (Post S25 1))))) ∧ (r2 = 6 → (wp_X9_isResultKnown S ((r2 - 3) + 2) ((7 + r6) - 2) ((7 + r6) - 1) a2 (fun S28 r28 => ((¬ ((r28 : Int32) = 0)) → (Post S28 0)) ∧ (((r28 : Int32) = 0) → (Post S28 1))))) ∧ (r2 = 7 → (wp_X9_isResultKnown S ((r2 - 3) + 2) ((7 + r6) - 2) ((7 + r6) - 1) a2 (fun S31 r31 => ((¬ ((r31 : Int32) = 0)) → (Post S31 0)) ∧ (((r31 : Int32) = 0) → (Post S31 1))))) ∧ (r2 = 8 → (wp_X9_isResultKnown S ((r2 - 3) + 2) ((7 + r6) - 2) ((7 + r6) - 1) a2 (fun S34 r34 => ((¬ ((r34 : Int32) = 0)) → (Post S34 0)) ∧ (((r34 : Int32) = 0) → (Post S34 1))))) ∧ (r2 = 9 → (wp_X9_lay S 7 14 a2 (fun S37 => Post S37 1))) ∧ (r2 = 10 → (wp_X9_isWaySure S r4 ((7 + r6) - 1) a2 (fun S39 r39 => ((¬ ((r39 : Int32) = 0)) → (Post S39 0)) ∧ (((r39 : Int32) = 0) → (Post S39 1))))) ∧ (r2 = 11 → (wp_X9_lay S 7 14 a2 (fun S42 => Post S42 1))) ∧ (r2 = 12 → (wp_X9_lay S ((7 + r6) - 1) ((7 + r6) - 1) a2 (fun S44 => Post S44 1))) ∧ (r2 = 13 → (cin S 24 i1 ∧ (wp_X9_isFieldKnown S i1 r4 (7 + r6) (fun S47 r47 => ((¬ ((r47 : Int32) = 0)) → (Post S47 0)) ∧ (((r47 : Int32) = 0) → (Post S47 1)))))) ∧ (r2 = 14 → (wp_X9_lay S ((7 + r6) - 1) ((7 + r6) - 1) a2 (fun S50 => Post S50 1))) ∧ (r2 = 15 → (wp_X9_lay S ((7 + r6) - 1) ((7 + r6) - 1) a2 (fun S52 => Post S52 1))) ∧ (r2 = 16 → (wp_X9_lay S ((7 + r6) - 1) ((7 + r6) - 1) a2 (fun S54 => Post S54 1))) ∧ (r2 = 17 → (wp_X9_lay S ((7 + r6) - 2) ((7 + r6) - 1) a2 (fun S56 => Post S56 1))) ∧ (r2 = 18 → (wp_X9_isCopyKnown S ((7 + r6) - 1) (7 + r6) (fun S58 r58 => ((¬ ((r58 : Int32) = 0)) → (Post S58 0)) ∧ (((r58 : Int32) = 0) → (Post S58 1))))) ∧ (r2 = 19 → (wp_X9_forget S ((7 + r6) - 1) (fun S61 => Post S61 0)))))))))
def zw_zd_X9_wantsTemplate_w0 : List Cond := [.code yX8_opAt cX8_opAt 2 (some .int), .code yX8_has cX8_has 2 (some .boolean), .fieldLink RX8 41 "TemplateForge$Program" "length" "I", .methodLink RX8 44 yX8_has, .instanceMethod yX8_has, .selects RX8 yX8_has yX8_has, .initialized RX8, .fieldLink RX8 18 "TemplateForge$Program" "ops" "[I", .methodLink RX9 86 yX8_opAt, .instanceMethod yX8_opAt, .selects RX8 yX8_opAt yX8_opAt, .code yX8_xAt cX8_xAt 2 (some .int), .fieldLink RX8 22 "TemplateForge$Program" "xs" "[I", .methodLink RX9 99 yX8_xAt, .instanceMethod yX8_xAt, .selects RX8 yX8_xAt yX8_xAt]
def zw_zd_X9_wantsTemplate_w1 : List Cond := [.code yX8_depthAt cX8_depthAt 2 (some .int), .fieldLink RX8 25 "TemplateForge$Program" "depths" "[I", .methodLink RX9 129 yX8_depthAt, .instanceMethod yX8_depthAt, .selects RX8 yX8_depthAt yX8_depthAt, .code yX9_isResultKnown cX9_isResultKnown 6 (some .boolean), .code yX9_isKnown cX9_isKnown 2 (some .boolean), .fieldLink RX9 9 "TemplateForge$Smith" "known" "[Z", .methodLink RX9 154 yX9_isKnown, .instanceMethod yX9_isKnown, .selects RX9 yX9_isKnown yX9_isKnown, .initialized RX9, .code yX9_lay cX9_lay 5 none, .methodLink RX9 112 Lib.Math.max.name, .static Lib.Math.max.name, .initialized "java/lang/Math"]
def zw_zd_X9_wantsTemplate_w2 : List Cond := [.code Lib.Math.max.name Lib.Math.max.code 2 (some .int), .fieldLink RX9 25 "TemplateForge$Smith" "draft" "LTemplateForge$Draft;", .fieldLink RX9 15 "TemplateForge$Smith" "worth" "[I", .code yX3_add cX3_add 7 none, .fieldLink RX3 18 "TemplateForge$Draft" "parts" "I", .fieldLink RX3 9 "TemplateForge$Draft" "cells" "[I", .methodLink RX9 121 yX3_add, .instanceMethod yX3_add, .selects RX3 yX3_add yX3_add, .initialized RX3, .methodLink RX9 66 yX9_lay, .instanceMethod yX9_lay, .selects RX9 yX9_lay yX9_lay, .code yX9_worthOf cX9_worthOf 2 (some .int), .methodLink RX9 157 yX9_worthOf, .instanceMethod yX9_worthOf]
def zw_zd_X9_wantsTemplate_w3 : List Cond := [.selects RX9 yX9_worthOf yX9_worthOf, .code yX11_reckoned cX11_reckoned 3 (some .int), .static yX11_reckoned, .initialized RX11, .code yX9_know cX9_know 3 none, .methodLink RX9 125 yX9_know, .instanceMethod yX9_know, .selects RX9 yX9_know yX9_know, .code yX9_forget cX9_forget 2 none, .methodLink RX9 140 yX9_forget, .instanceMethod yX9_forget, .selects RX9 yX9_forget yX9_forget, .methodLink RX9 150 yX9_isResultKnown, .instanceMethod yX9_isResultKnown, .selects RX9 yX9_isResultKnown yX9_isResultKnown, .code yX9_isCopyKnown cX9_isCopyKnown 3 (some .boolean)]
def zw_zd_X9_wantsTemplate_w4 : List Cond := [.methodLink RX9 132 yX9_isCopyKnown, .instanceMethod yX9_isCopyKnown, .selects RX9 yX9_isCopyKnown yX9_isCopyKnown, .code yX9_isStoredKnown cX9_isStoredKnown 4 (some .boolean), .methodLink RX9 136 yX9_isStoredKnown, .instanceMethod yX9_isStoredKnown, .selects RX9 yX9_isStoredKnown yX9_isStoredKnown, .code yX9_isWaySure cX9_isWaySure 4 (some .boolean), .methodLink RX9 143 yX9_isWaySure, .instanceMethod yX9_isWaySure, .selects RX9 yX9_isWaySure yX9_isWaySure, .fieldLink RX9 41 "TemplateForge$Program" "heat" "LTemplateForge$Heat;", .code yX9_isFieldKnown cX9_isFieldKnown 5 (some .boolean), .fieldLink RX9 22 "TemplateForge$Smith" "assumed" "[Z", .code yX5_valueOf cX5_valueOf 2 (some .int), .fieldLink RX5 9 "TemplateForge$Heat" "first" "[I"]
def zw_zd_X9_wantsTemplate_w5 : List Cond := [.methodLink RX9 118 yX5_valueOf, .instanceMethod yX5_valueOf, .selects RX5 yX5_valueOf yX5_valueOf, .initialized RX5, .methodLink RX9 146 yX9_isFieldKnown, .instanceMethod yX9_isFieldKnown, .selects RX9 yX9_isFieldKnown yX9_isFieldKnown]
def zw_zd_X9_wantsTemplate : List Cond := .code yX9_wantsTemplate cX9_wantsTemplate 6 (some .boolean) :: ((zw_zd_X9_wantsTemplate_w0 ++ (zw_zd_X9_wantsTemplate_w1 ++ (zw_zd_X9_wantsTemplate_w2 ++ (zw_zd_X9_wantsTemplate_w3 ++ (zw_zd_X9_wantsTemplate_w4 ++ (zw_zd_X9_wantsTemplate_w5)))))) ++ wsX80 ++ wsX90 ++ wsX30 ++ wsX50)
set_option maxRecDepth 100000 in
theorem zg_zd_X9_wantsTemplate_zd_X8_opAt_86_a : GoodIn zw_zd_X9_wantsTemplate [.methodLink RX9 86 yX8_opAt, .instanceMethod yX8_opAt, .selects RX8 yX8_opAt yX8_opAt, .initialized RX8] := goodIn_r _ [9, 10, 11, 7] rfl (by decide +kernel)
set_option maxRecDepth 100000 in
theorem zg_zd_X9_wantsTemplate_zd_X8_opAt_86_c : GoodIn zw_zd_X9_wantsTemplate [.code yX8_opAt cX8_opAt 2 (some .int)] := goodIn_r _ [1] rfl (by decide +kernel)
set_option maxRecDepth 100000 in
theorem zg_zd_X9_wantsTemplate_zd_X8_opAt_86_0 : GoodIn zw_zd_X9_wantsTemplate zw_zd_X8_opAt_w0 := goodIn_r _ [2, 3, 4, 5, 6, 7, 8] rfl (by decide +kernel)
theorem zg_zd_X9_wantsTemplate_zd_X8_opAt_86 : GoodIn zw_zd_X9_wantsTemplate (wsV RX9 86 RX8 yX8_opAt zw_zd_X8_opAt) := goodIn_app zg_zd_X9_wantsTemplate_zd_X8_opAt_86_a (goodIn_ca (a := (zw_zd_X8_opAt_w0)) (show GoodIn zw_zd_X9_wantsTemplate (.code yX8_opAt cX8_opAt 2 (some .int) :: (zw_zd_X8_opAt_w0)) from goodIn_app zg_zd_X9_wantsTemplate_zd_X8_opAt_86_c (zg_zd_X9_wantsTemplate_zd_X8_opAt_86_0)) (fun w h => ⟨(fun _ h => List.mem_cons_of_mem _ (List.mem_append_left _ (List.mem_append_left _ (List.mem_append_left _ (List.mem_append_right _ h))))) w h, good_of_word (List.all_eq_true.mp zgw_X8 w h)⟩))
set_option maxRecDepth 100000 in
theorem zg_zd_X9_wantsTemplate_zd_X8_xAt_99_a : GoodIn zw_zd_X9_wantsTemplate [.methodLink RX9 99 yX8_xAt, .instanceMethod yX8_xAt, .selects RX8 yX8_xAt yX8_xAt, .initialized RX8] := goodIn_r _ [14, 15, 16, 7] rfl (by decide +kernel)
set_option maxRecDepth 100000 in
theorem zg_zd_X9_wantsTemplate_zd_X8_xAt_99_c : GoodIn zw_zd_X9_wantsTemplate [.code yX8_xAt cX8_xAt 2 (some .int)] := goodIn_r _ [12] rfl (by decide +kernel)
set_option maxRecDepth 100000 in
theorem zg_zd_X9_wantsTemplate_zd_X8_xAt_99_0 : GoodIn zw_zd_X9_wantsTemplate zw_zd_X8_xAt_w0 := goodIn_r _ [2, 3, 4, 5, 6, 7, 13] rfl (by decide +kernel)
theorem zg_zd_X9_wantsTemplate_zd_X8_xAt_99 : GoodIn zw_zd_X9_wantsTemplate (wsV RX9 99 RX8 yX8_xAt zw_zd_X8_xAt) := goodIn_app zg_zd_X9_wantsTemplate_zd_X8_xAt_99_a (goodIn_ca (a := (zw_zd_X8_xAt_w0)) (show GoodIn zw_zd_X9_wantsTemplate (.code yX8_xAt cX8_xAt 2 (some .int) :: (zw_zd_X8_xAt_w0)) from goodIn_app zg_zd_X9_wantsTemplate_zd_X8_xAt_99_c (zg_zd_X9_wantsTemplate_zd_X8_xAt_99_0)) (fun w h => ⟨(fun _ h => List.mem_cons_of_mem _ (List.mem_append_left _ (List.mem_append_left _ (List.mem_append_left _ (List.mem_append_right _ h))))) w h, good_of_word (List.all_eq_true.mp zgw_X8 w h)⟩))
set_option maxRecDepth 100000 in
theorem zg_zd_X9_wantsTemplate_zd_X8_depthAt_129_a : GoodIn zw_zd_X9_wantsTemplate [.methodLink RX9 129 yX8_depthAt, .instanceMethod yX8_depthAt, .selects RX8 yX8_depthAt yX8_depthAt, .initialized RX8] := goodIn_r _ [19, 20, 21, 7] rfl (by decide +kernel)
set_option maxRecDepth 100000 in
theorem zg_zd_X9_wantsTemplate_zd_X8_depthAt_129_c : GoodIn zw_zd_X9_wantsTemplate [.code yX8_depthAt cX8_depthAt 2 (some .int)] := goodIn_r _ [17] rfl (by decide +kernel)
set_option maxRecDepth 100000 in
theorem zg_zd_X9_wantsTemplate_zd_X8_depthAt_129_0 : GoodIn zw_zd_X9_wantsTemplate zw_zd_X8_depthAt_w0 := goodIn_r _ [2, 3, 4, 5, 6, 7, 18] rfl (by decide +kernel)
theorem zg_zd_X9_wantsTemplate_zd_X8_depthAt_129 : GoodIn zw_zd_X9_wantsTemplate (wsV RX9 129 RX8 yX8_depthAt zw_zd_X8_depthAt) := goodIn_app zg_zd_X9_wantsTemplate_zd_X8_depthAt_129_a (goodIn_ca (a := (zw_zd_X8_depthAt_w0)) (show GoodIn zw_zd_X9_wantsTemplate (.code yX8_depthAt cX8_depthAt 2 (some .int) :: (zw_zd_X8_depthAt_w0)) from goodIn_app zg_zd_X9_wantsTemplate_zd_X8_depthAt_129_c (zg_zd_X9_wantsTemplate_zd_X8_depthAt_129_0)) (fun w h => ⟨(fun _ h => List.mem_cons_of_mem _ (List.mem_append_left _ (List.mem_append_left _ (List.mem_append_left _ (List.mem_append_right _ h))))) w h, good_of_word (List.all_eq_true.mp zgw_X8 w h)⟩))
set_option maxRecDepth 100000 in
theorem zg_zd_X9_wantsTemplate_zd_X9_isResultKnown_150_a : GoodIn zw_zd_X9_wantsTemplate [.methodLink RX9 150 yX9_isResultKnown, .instanceMethod yX9_isResultKnown, .selects RX9 yX9_isResultKnown yX9_isResultKnown, .initialized RX9] := goodIn_r _ [61, 62, 63, 28] rfl (by decide +kernel)
set_option maxRecDepth 100000 in
theorem zg_zd_X9_wantsTemplate_zd_X9_isResultKnown_150_c : GoodIn zw_zd_X9_wantsTemplate [.code yX9_isResultKnown cX9_isResultKnown 6 (some .boolean)] := goodIn_r _ [22] rfl (by decide +kernel)
set_option maxRecDepth 100000 in
theorem zg_zd_X9_wantsTemplate_zd_X9_isResultKnown_150_0 : GoodIn zw_zd_X9_wantsTemplate zw_zd_X9_isResultKnown_w0 := goodIn_r _ [23, 24, 25, 26, 27, 28, 29, 30, 31, 32, 33, 34, 35, 36, 37, 38] rfl (by decide +kernel)
set_option maxRecDepth 100000 in
theorem zg_zd_X9_wantsTemplate_zd_X9_isResultKnown_150_1 : GoodIn zw_zd_X9_wantsTemplate zw_zd_X9_isResultKnown_w1 := goodIn_r _ [39, 40, 41, 42, 43, 44, 45, 46, 47, 48, 49, 50, 51, 52, 53, 54] rfl (by decide +kernel)
set_option maxRecDepth 100000 in
theorem zg_zd_X9_wantsTemplate_zd_X9_isResultKnown_150_2 : GoodIn zw_zd_X9_wantsTemplate zw_zd_X9_isResultKnown_w2 := goodIn_r _ [55, 56, 57, 58, 59, 60] rfl (by decide +kernel)
theorem zg_zd_X9_wantsTemplate_zd_X9_isResultKnown_150 : GoodIn zw_zd_X9_wantsTemplate (wsV RX9 150 RX9 yX9_isResultKnown zw_zd_X9_isResultKnown) := goodIn_app zg_zd_X9_wantsTemplate_zd_X9_isResultKnown_150_a (goodIn_ca (a := ((zw_zd_X9_isResultKnown_w0 ++ (zw_zd_X9_isResultKnown_w1 ++ (zw_zd_X9_isResultKnown_w2))) ++ wsX90)) (goodIn_ca (a := (zw_zd_X9_isResultKnown_w0 ++ (zw_zd_X9_isResultKnown_w1 ++ (zw_zd_X9_isResultKnown_w2)))) (show GoodIn zw_zd_X9_wantsTemplate (.code yX9_isResultKnown cX9_isResultKnown 6 (some .boolean) :: (zw_zd_X9_isResultKnown_w0 ++ (zw_zd_X9_isResultKnown_w1 ++ (zw_zd_X9_isResultKnown_w2)))) from goodIn_app zg_zd_X9_wantsTemplate_zd_X9_isResultKnown_150_c (goodIn_app zg_zd_X9_wantsTemplate_zd_X9_isResultKnown_150_0 (goodIn_app zg_zd_X9_wantsTemplate_zd_X9_isResultKnown_150_1 (zg_zd_X9_wantsTemplate_zd_X9_isResultKnown_150_2)))) (fun w h => ⟨(fun _ h => List.mem_cons_of_mem _ (List.mem_append_left _ (List.mem_append_left _ (List.mem_append_right _ h)))) w h, good_of_word (List.all_eq_true.mp zgw_X9 w h)⟩)) (fun w h => ⟨(fun _ h => List.mem_cons_of_mem _ (List.mem_append_left _ (List.mem_append_right _ h))) w h, good_of_word (List.all_eq_true.mp zgw_X3 w h)⟩))
set_option maxRecDepth 100000 in
theorem zg_zd_X9_wantsTemplate_zd_X9_know_125_a : GoodIn zw_zd_X9_wantsTemplate [.methodLink RX9 125 yX9_know, .instanceMethod yX9_know, .selects RX9 yX9_know yX9_know, .initialized RX9] := goodIn_r _ [54, 55, 56, 28] rfl (by decide +kernel)
set_option maxRecDepth 100000 in
theorem zg_zd_X9_wantsTemplate_zd_X9_know_125_c : GoodIn zw_zd_X9_wantsTemplate [.code yX9_know cX9_know 3 none] := goodIn_r _ [53] rfl (by decide +kernel)
set_option maxRecDepth 100000 in
theorem zg_zd_X9_wantsTemplate_zd_X9_know_125_0 : GoodIn zw_zd_X9_wantsTemplate zw_zd_X9_know_w0 := goodIn_r _ [24, 35] rfl (by decide +kernel)
theorem zg_zd_X9_wantsTemplate_zd_X9_know_125 : GoodIn zw_zd_X9_wantsTemplate (wsV RX9 125 RX9 yX9_know zw_zd_X9_know) := goodIn_app zg_zd_X9_wantsTemplate_zd_X9_know_125_a (goodIn_ca (a := (zw_zd_X9_know_w0)) (show GoodIn zw_zd_X9_wantsTemplate (.code yX9_know cX9_know 3 none :: (zw_zd_X9_know_w0)) from goodIn_app zg_zd_X9_wantsTemplate_zd_X9_know_125_c (zg_zd_X9_wantsTemplate_zd_X9_know_125_0)) (fun w h => ⟨(fun _ h => List.mem_cons_of_mem _ (List.mem_append_left _ (List.mem_append_left _ (List.mem_append_right _ h)))) w h, good_of_word (List.all_eq_true.mp zgw_X9 w h)⟩))
set_option maxRecDepth 100000 in
theorem zg_zd_X9_wantsTemplate_zd_X9_isCopyKnown_132_a : GoodIn zw_zd_X9_wantsTemplate [.methodLink RX9 132 yX9_isCopyKnown, .instanceMethod yX9_isCopyKnown, .selects RX9 yX9_isCopyKnown yX9_isCopyKnown, .initialized RX9] := goodIn_r _ [65, 66, 67, 28] rfl (by decide +kernel)
set_option maxRecDepth 100000 in
theorem zg_zd_X9_wantsTemplate_zd_X9_isCopyKnown_132_c : GoodIn zw_zd_X9_wantsTemplate [.code yX9_isCopyKnown cX9_isCopyKnown 3 (some .boolean)] := goodIn_r _ [64] rfl (by decide +kernel)
set_option maxRecDepth 100000 in
theorem zg_zd_X9_wantsTemplate_zd_X9_isCopyKnown_132_0 : GoodIn zw_zd_X9_wantsTemplate zw_zd_X9_isCopyKnown_w0 := goodIn_r _ [23, 24, 25, 26, 27, 28, 46, 35, 47, 48, 49, 53, 54, 55, 56] rfl (by decide +kernel)
theorem zg_zd_X9_wantsTemplate_zd_X9_isCopyKnown_132 : GoodIn zw_zd_X9_wantsTemplate (wsV RX9 132 RX9 yX9_isCopyKnown zw_zd_X9_isCopyKnown) := goodIn_app zg_zd_X9_wantsTemplate_zd_X9_isCopyKnown_132_a (goodIn_ca (a := (zw_zd_X9_isCopyKnown_w0)) (show GoodIn zw_zd_X9_wantsTemplate (.code yX9_isCopyKnown cX9_isCopyKnown 3 (some .boolean) :: (zw_zd_X9_isCopyKnown_w0)) from goodIn_app zg_zd_X9_wantsTemplate_zd_X9_isCopyKnown_132_c (zg_zd_X9_wantsTemplate_zd_X9_isCopyKnown_132_0)) (fun w h => ⟨(fun _ h => List.mem_cons_of_mem _ (List.mem_append_left _ (List.mem_append_left _ (List.mem_append_right _ h)))) w h, good_of_word (List.all_eq_true.mp zgw_X9 w h)⟩))
set_option maxRecDepth 100000 in
theorem zg_zd_X9_wantsTemplate_zd_X9_isStoredKnown_136_a : GoodIn zw_zd_X9_wantsTemplate [.methodLink RX9 136 yX9_isStoredKnown, .instanceMethod yX9_isStoredKnown, .selects RX9 yX9_isStoredKnown yX9_isStoredKnown, .initialized RX9] := goodIn_r _ [69, 70, 71, 28] rfl (by decide +kernel)
set_option maxRecDepth 100000 in
theorem zg_zd_X9_wantsTemplate_zd_X9_isStoredKnown_136_c : GoodIn zw_zd_X9_wantsTemplate [.code yX9_isStoredKnown cX9_isStoredKnown 4 (some .boolean)] := goodIn_r _ [68] rfl (by decide +kernel)
set_option maxRecDepth 100000 in
theorem zg_zd_X9_wantsTemplate_zd_X9_isStoredKnown_136_0 : GoodIn zw_zd_X9_wantsTemplate zw_zd_X9_isStoredKnown_w0 := goodIn_r _ [23, 24, 25, 26, 27, 28, 57, 58, 59, 60, 34, 46, 35, 47, 48, 49] rfl (by decide +kernel)
set_option maxRecDepth 100000 in
theorem zg_zd_X9_wantsTemplate_zd_X9_isStoredKnown_136_1 : GoodIn zw_zd_X9_wantsTemplate zw_zd_X9_isStoredKnown_w1 := goodIn_r _ [36, 37, 38, 39, 40, 41, 42, 53, 54, 55, 56] rfl (by decide +kernel)
theorem zg_zd_X9_wantsTemplate_zd_X9_isStoredKnown_136 : GoodIn zw_zd_X9_wantsTemplate (wsV RX9 136 RX9 yX9_isStoredKnown zw_zd_X9_isStoredKnown) := goodIn_app zg_zd_X9_wantsTemplate_zd_X9_isStoredKnown_136_a (goodIn_ca (a := ((zw_zd_X9_isStoredKnown_w0 ++ (zw_zd_X9_isStoredKnown_w1)) ++ wsX90)) (goodIn_ca (a := (zw_zd_X9_isStoredKnown_w0 ++ (zw_zd_X9_isStoredKnown_w1))) (show GoodIn zw_zd_X9_wantsTemplate (.code yX9_isStoredKnown cX9_isStoredKnown 4 (some .boolean) :: (zw_zd_X9_isStoredKnown_w0 ++ (zw_zd_X9_isStoredKnown_w1))) from goodIn_app zg_zd_X9_wantsTemplate_zd_X9_isStoredKnown_136_c (goodIn_app zg_zd_X9_wantsTemplate_zd_X9_isStoredKnown_136_0 (zg_zd_X9_wantsTemplate_zd_X9_isStoredKnown_136_1))) (fun w h => ⟨(fun _ h => List.mem_cons_of_mem _ (List.mem_append_left _ (List.mem_append_left _ (List.mem_append_right _ h)))) w h, good_of_word (List.all_eq_true.mp zgw_X9 w h)⟩)) (fun w h => ⟨(fun _ h => List.mem_cons_of_mem _ (List.mem_append_left _ (List.mem_append_right _ h))) w h, good_of_word (List.all_eq_true.mp zgw_X3 w h)⟩))
set_option maxRecDepth 100000 in
theorem zg_zd_X9_wantsTemplate_zd_X9_lay_66_a : GoodIn zw_zd_X9_wantsTemplate [.methodLink RX9 66 yX9_lay, .instanceMethod yX9_lay, .selects RX9 yX9_lay yX9_lay, .initialized RX9] := goodIn_r _ [43, 44, 45, 28] rfl (by decide +kernel)
set_option maxRecDepth 100000 in
theorem zg_zd_X9_wantsTemplate_zd_X9_lay_66_c : GoodIn zw_zd_X9_wantsTemplate [.code yX9_lay cX9_lay 5 none] := goodIn_r _ [29] rfl (by decide +kernel)
set_option maxRecDepth 100000 in
theorem zg_zd_X9_wantsTemplate_zd_X9_lay_66_0 : GoodIn zw_zd_X9_wantsTemplate zw_zd_X9_lay_w0 := goodIn_r _ [30, 31, 32, 33, 24, 34, 35, 36, 37, 38, 39, 40, 41, 42] rfl (by decide +kernel)
theorem zg_zd_X9_wantsTemplate_zd_X9_lay_66 : GoodIn zw_zd_X9_wantsTemplate (wsV RX9 66 RX9 yX9_lay zw_zd_X9_lay) := goodIn_app zg_zd_X9_wantsTemplate_zd_X9_lay_66_a (goodIn_ca (a := ((zw_zd_X9_lay_w0) ++ wsX90)) (goodIn_ca (a := (zw_zd_X9_lay_w0)) (show GoodIn zw_zd_X9_wantsTemplate (.code yX9_lay cX9_lay 5 none :: (zw_zd_X9_lay_w0)) from goodIn_app zg_zd_X9_wantsTemplate_zd_X9_lay_66_c (zg_zd_X9_wantsTemplate_zd_X9_lay_66_0)) (fun w h => ⟨(fun _ h => List.mem_cons_of_mem _ (List.mem_append_left _ (List.mem_append_left _ (List.mem_append_right _ h)))) w h, good_of_word (List.all_eq_true.mp zgw_X9 w h)⟩)) (fun w h => ⟨(fun _ h => List.mem_cons_of_mem _ (List.mem_append_left _ (List.mem_append_right _ h))) w h, good_of_word (List.all_eq_true.mp zgw_X3 w h)⟩))
set_option maxRecDepth 100000 in
theorem zg_zd_X9_wantsTemplate_zd_X9_isWaySure_143_a : GoodIn zw_zd_X9_wantsTemplate [.methodLink RX9 143 yX9_isWaySure, .instanceMethod yX9_isWaySure, .selects RX9 yX9_isWaySure yX9_isWaySure, .initialized RX9] := goodIn_r _ [73, 74, 75, 28] rfl (by decide +kernel)
set_option maxRecDepth 100000 in
theorem zg_zd_X9_wantsTemplate_zd_X9_isWaySure_143_c : GoodIn zw_zd_X9_wantsTemplate [.code yX9_isWaySure cX9_isWaySure 4 (some .boolean)] := goodIn_r _ [72] rfl (by decide +kernel)
set_option maxRecDepth 100000 in
theorem zg_zd_X9_wantsTemplate_zd_X9_isWaySure_143_0 : GoodIn zw_zd_X9_wantsTemplate zw_zd_X9_isWaySure_w0 := goodIn_r _ [23, 24, 25, 26, 27, 28, 57, 58, 59, 60, 46, 35, 47, 48, 49, 29] rfl (by decide +kernel)
set_option maxRecDepth 100000 in
theorem zg_zd_X9_wantsTemplate_zd_X9_isWaySure_143_1 : GoodIn zw_zd_X9_wantsTemplate zw_zd_X9_isWaySure_w1 := goodIn_r _ [30, 31, 32, 33, 34, 36, 37, 38, 39, 40, 41, 42, 43, 44, 45] rfl (by decide +kernel)
theorem zg_zd_X9_wantsTemplate_zd_X9_isWaySure_143 : GoodIn zw_zd_X9_wantsTemplate (wsV RX9 143 RX9 yX9_isWaySure zw_zd_X9_isWaySure) := goodIn_app zg_zd_X9_wantsTemplate_zd_X9_isWaySure_143_a (goodIn_ca (a := ((zw_zd_X9_isWaySure_w0 ++ (zw_zd_X9_isWaySure_w1)) ++ wsX90)) (goodIn_ca (a := (zw_zd_X9_isWaySure_w0 ++ (zw_zd_X9_isWaySure_w1))) (show GoodIn zw_zd_X9_wantsTemplate (.code yX9_isWaySure cX9_isWaySure 4 (some .boolean) :: (zw_zd_X9_isWaySure_w0 ++ (zw_zd_X9_isWaySure_w1))) from goodIn_app zg_zd_X9_wantsTemplate_zd_X9_isWaySure_143_c (goodIn_app zg_zd_X9_wantsTemplate_zd_X9_isWaySure_143_0 (zg_zd_X9_wantsTemplate_zd_X9_isWaySure_143_1))) (fun w h => ⟨(fun _ h => List.mem_cons_of_mem _ (List.mem_append_left _ (List.mem_append_left _ (List.mem_append_right _ h)))) w h, good_of_word (List.all_eq_true.mp zgw_X9 w h)⟩)) (fun w h => ⟨(fun _ h => List.mem_cons_of_mem _ (List.mem_append_left _ (List.mem_append_right _ h))) w h, good_of_word (List.all_eq_true.mp zgw_X3 w h)⟩))
set_option maxRecDepth 100000 in
theorem zg_zd_X9_wantsTemplate_zd_X9_isFieldKnown_146_a : GoodIn zw_zd_X9_wantsTemplate [.methodLink RX9 146 yX9_isFieldKnown, .instanceMethod yX9_isFieldKnown, .selects RX9 yX9_isFieldKnown yX9_isFieldKnown, .initialized RX9] := goodIn_r _ [85, 86, 87, 28] rfl (by decide +kernel)
set_option maxRecDepth 100000 in
theorem zg_zd_X9_wantsTemplate_zd_X9_isFieldKnown_146_c : GoodIn zw_zd_X9_wantsTemplate [.code yX9_isFieldKnown cX9_isFieldKnown 5 (some .boolean)] := goodIn_r _ [77] rfl (by decide +kernel)
set_option maxRecDepth 100000 in
theorem zg_zd_X9_wantsTemplate_zd_X9_isFieldKnown_146_0 : GoodIn zw_zd_X9_wantsTemplate zw_zd_X9_isFieldKnown_w0 := goodIn_r _ [78, 79, 80, 81, 82, 83, 84, 53, 24, 35, 54, 55, 56, 28] rfl (by decide +kernel)
theorem zg_zd_X9_wantsTemplate_zd_X9_isFieldKnown_146 : GoodIn zw_zd_X9_wantsTemplate (wsV RX9 146 RX9 yX9_isFieldKnown zw_zd_X9_isFieldKnown) := goodIn_app zg_zd_X9_wantsTemplate_zd_X9_isFieldKnown_146_a (goodIn_ca (a := ((zw_zd_X9_isFieldKnown_w0) ++ wsX90)) (goodIn_ca (a := (zw_zd_X9_isFieldKnown_w0)) (show GoodIn zw_zd_X9_wantsTemplate (.code yX9_isFieldKnown cX9_isFieldKnown 5 (some .boolean) :: (zw_zd_X9_isFieldKnown_w0)) from goodIn_app zg_zd_X9_wantsTemplate_zd_X9_isFieldKnown_146_c (zg_zd_X9_wantsTemplate_zd_X9_isFieldKnown_146_0)) (fun w h => ⟨(fun _ h => List.mem_cons_of_mem _ (List.mem_append_left _ (List.mem_append_left _ (List.mem_append_right _ h)))) w h, good_of_word (List.all_eq_true.mp zgw_X9 w h)⟩)) (fun w h => ⟨(fun _ h => List.mem_cons_of_mem _ (List.mem_append_right _ h)) w h, good_of_word (List.all_eq_true.mp zgw_X5 w h)⟩))
set_option maxRecDepth 100000 in
theorem zg_zd_X9_wantsTemplate_zd_X9_forget_140_a : GoodIn zw_zd_X9_wantsTemplate [.methodLink RX9 140 yX9_forget, .instanceMethod yX9_forget, .selects RX9 yX9_forget yX9_forget, .initialized RX9] := goodIn_r _ [58, 59, 60, 28] rfl (by decide +kernel)
set_option maxRecDepth 100000 in
theorem zg_zd_X9_wantsTemplate_zd_X9_forget_140_c : GoodIn zw_zd_X9_wantsTemplate [.code yX9_forget cX9_forget 2 none] := goodIn_r _ [57] rfl (by decide +kernel)
set_option maxRecDepth 100000 in
theorem zg_zd_X9_wantsTemplate_zd_X9_forget_140_0 : GoodIn zw_zd_X9_wantsTemplate zw_zd_X9_forget_w0 := goodIn_r _ [24] rfl (by decide +kernel)
theorem zg_zd_X9_wantsTemplate_zd_X9_forget_140 : GoodIn zw_zd_X9_wantsTemplate (wsV RX9 140 RX9 yX9_forget zw_zd_X9_forget) := goodIn_app zg_zd_X9_wantsTemplate_zd_X9_forget_140_a (goodIn_ca (a := (zw_zd_X9_forget_w0)) (show GoodIn zw_zd_X9_wantsTemplate (.code yX9_forget cX9_forget 2 none :: (zw_zd_X9_forget_w0)) from goodIn_app zg_zd_X9_wantsTemplate_zd_X9_forget_140_c (zg_zd_X9_wantsTemplate_zd_X9_forget_140_0)) (fun w h => ⟨(fun _ h => List.mem_cons_of_mem _ (List.mem_append_left _ (List.mem_append_left _ (List.mem_append_right _ h)))) w h, good_of_word (List.all_eq_true.mp zgw_X9 w h)⟩))
set_option maxHeartbeats 16000000 in
set_option maxRecDepth 100000 in
theorem zd_X9_wantsTemplate (l : Launch) (D : va_G) (cI cZ cP cF : Nat) (q : Nat → Nat → Nat) (S : CST) (i1 : Nat) (a2 : Int32) (sz : Nat) (Post : CST → Int32 → Prop) (h : wp_X9_wantsTemplate S i1 a2 Post) : Met l yX9_wantsTemplate zw_zd_X9_wantsTemplate ({ frames := 3, cells := 0, slots := 0, locals := 79 }) (va_Pc [.ref (q 15 0), .ref (q 24 i1), .int a2] (fun U => U.heap.size = sz ∧ va_P D vwCl (cW cI cZ cP cF q S) U.heap ∧ zF D cI cZ cP cF U ∧ va_D (fun _ => True) (cW cI cZ cP cF q S))) (va_Qi (fun r S' => Post S' r) (fun (S' : CST) t => va_P D vwCl (cW cI cZ cP cF q S') t.heap ∧ va_D (va_A (cW cI cZ cP cF q S) sz) (cW cI cZ cP cF q S') ∧ S'.2 = S.2) (va_A (cW cI cZ cP cF q S) sz)) 0 0 (va_A (cW cI cZ cP cF q S) sz) := by
  unfold wp_X9_wantsTemplate at h
  refine Met.ofW (cc := cX9_wantsTemplate) (maxL := 6) (ret := (some .boolean)) (by decide) rfl ?_
  intro p e s m args below meth c s₁ B hml hv
  obtain ⟨rfl, hsz, hP, hE, hD0⟩ := hv
  have hx := B.exec
  have hb := B.bytes
  have hr := B.returns
  have hts := atoms_spec (ws := zw_zd_X9_wantsTemplate) B.pre
  have hown : s.vm.findClass RX9 = some m.cls := findClass_of_methodNamed B.named
  have hlocks := B.notSynchronized
  have hK := hE.k
  subst hsz
  have hD := hD0.self (sz := s.heap.size)
  generalize hAe : va_A (cW cI cZ cP cF q S) s.heap.size = A at hD ⊢
  have hA : ∀ q : Nat, s.heap.size ≤ q → A q := fun q h => by rw [← hAe]; exact Or.inr h
  have hN : S.2 = S.2 := rfl
  have hl := lv_entry ([.ref (q 15 0), .ref (q 24 i1), .int a2]) (n := 6) (Nat.le_of_ble_eq_true rfl)
  rw [lg_entry_eq]
  generalize (lg_sl ([.ref (q 15 0), .ref (q 24 i1), .int a2]) ++ List.replicate (6 - (lg_sl ([.ref (q 15 0), .ref (q 24 i1), .int a2])).length) Slot.unset).toArray = ls at hl ⊢
  have hl : lv_has ls 6 [(0, .ref (q 15 0)), (1, .ref (q 24 i1)), (2, .int a2)] := hl
  have key : ∀ (H : Heap) (locs : List Loc), va_P D vwCl (cW cI cZ cP cF q S) H → va_S A s.heap H locs → W p l e (headSpec zw_zd_X9_wantsTemplate ({ frames := 3, cells := 0, slots := 0, locals := 79 })).room s m ([.ref (q 15 0), .ref (q 24 i1), .int a2] : List Value).toArray below meth c H locs 0 0 (MQ below (va_Qi (fun r S' => Post S' r) (fun (S' : CST) t => va_P D vwCl (cW cI cZ cP cF q S') t.heap ∧ va_D A (cW cI cZ cP cF q S') ∧ S'.2 = S.2) A) ([.ref (q 15 0), .ref (q 24 i1), .int a2] : List Value).toArray s 0 0 A) (F0 m 0 ls []) := by
    intro H locs hP hS
    refine lv_aload_n hx hb dX9_wantsTemplate_0 rfl (lv_at hl 1 rfl) ?_
    refine lv_iload_n hx hb dX9_wantsTemplate_1 rfl (lv_at hl 2 rfl) ?_
    have hi_1 := h.1
    have h := h.2
    obtain ⟨p_1, hp_1⟩ := cget_24 cI cZ cP cF q S hi_1
    refine vp_callSi (va_Run.run (va_runV (As := [.int a2]) (rest := []) ⟨hx, hb, hml, hown, hts⟩ (zd_X8_opAt l D cI cZ cP cF q S i1 a2  _ h) (cwV 1 hts zg_zd_X9_wantsTemplate_zd_X8_opAt_86 rfl rfl rfl (by decide +kernel) ⟨Nat.le_of_ble_eq_true rfl, Nat.le_of_ble_eq_true rfl⟩) ⟨zCR, va_recv hK hP (ci := 8) (q0 := p_1) rfl hp_1, fun U hU hW => ⟨rfl, by rw [hU]; exact hP, hE.warm hW⟩⟩ rfl rfl hl.1 rfl (lv_room (Nat.le_of_ble_eq_true rfl)) dX9_wantsTemplate_2 ⟨Nat.le_of_ble_eq_true rfl, Nat.le_of_ble_eq_true rfl⟩)) (fun r2 h => ?_)
    refine lv_istore_n (lv' := [(3, .int r2), (0, .ref (q 15 0)), (1, .ref (q 24 i1)), (2, .int a2)]) hx hb dX9_wantsTemplate_5 rfl hl (by decide) rfl (fun ls hl => ?_)
    refine lv_aload_n hx hb dX9_wantsTemplate_6 rfl (lv_at hl 2 rfl) ?_
    refine lv_iload_n hx hb dX9_wantsTemplate_7 rfl (lv_at hl 3 rfl) ?_
    have hi_3 := h.1
    have h := h.2
    obtain ⟨p_3, hp_3⟩ := cget_24 cI cZ cP cF q S hi_3
    refine vp_callSi (va_Run.run (va_runV (As := [.int a2]) (rest := []) ⟨hx, hb, hml, hown, hts⟩ (zd_X8_xAt l D cI cZ cP cF q S i1 a2  _ h) (cwV 1 hts zg_zd_X9_wantsTemplate_zd_X8_xAt_99 rfl rfl rfl (by decide +kernel) ⟨Nat.le_of_ble_eq_true rfl, Nat.le_of_ble_eq_true rfl⟩) ⟨zCR, va_recv hK hP (ci := 8) (q0 := p_3) rfl hp_3, fun U hU hW => ⟨rfl, by rw [hU]; exact hP, hE.warm hW⟩⟩ rfl rfl hl.1 rfl (lv_room (Nat.le_of_ble_eq_true rfl)) dX9_wantsTemplate_8 ⟨Nat.le_of_ble_eq_true rfl, Nat.le_of_ble_eq_true rfl⟩)) (fun r4 h => ?_)
    refine lv_istore (lv' := [(4, .int r4), (3, .int r2), (0, .ref (q 15 0)), (1, .ref (q 24 i1)), (2, .int a2)]) hx hb dX9_wantsTemplate_11 hl (by decide) rfl (fun ls hl => ?_)
    refine lv_bipush (v := 7) hx hb dX9_wantsTemplate_13 (by decide) ?_
    refine lv_aload_n hx hb dX9_wantsTemplate_15 rfl (lv_at hl 3 rfl) ?_
    refine lv_iload_n hx hb dX9_wantsTemplate_16 rfl (lv_at hl 4 rfl) ?_
    have hi_5 := h.1
    have h := h.2
    obtain ⟨p_5, hp_5⟩ := cget_24 cI cZ cP cF q S hi_5
    refine vp_callSi (va_Run.run (va_runV (As := [.int a2]) (rest := [.int 7]) ⟨hx, hb, hml, hown, hts⟩ (zd_X8_depthAt l D cI cZ cP cF q S i1 a2  _ h) (cwV 1 hts zg_zd_X9_wantsTemplate_zd_X8_depthAt_129 rfl rfl rfl (by decide +kernel) ⟨Nat.le_of_ble_eq_true rfl, Nat.le_of_ble_eq_true rfl⟩) ⟨zCR, va_recv hK hP (ci := 8) (q0 := p_5) rfl hp_5, fun U hU hW => ⟨rfl, by rw [hU]; exact hP, hE.warm hW⟩⟩ rfl rfl hl.1 rfl (lv_room (Nat.le_of_ble_eq_true rfl)) dX9_wantsTemplate_17 ⟨Nat.le_of_ble_eq_true rfl, Nat.le_of_ble_eq_true rfl⟩)) (fun r6 h => ?_)
    refine lv_iadd hx hb dX9_wantsTemplate_20 ?_
    refine lv_istore (lv' := [(5, .int (7 + r6)), (4, .int r4), (3, .int r2), (0, .ref (q 15 0)), (1, .ref (q 24 i1)), (2, .int a2)]) hx hb dX9_wantsTemplate_21 hl (by decide) rfl (fun ls hl => ?_)
    refine lv_iload_n hx hb dX9_wantsTemplate_23 rfl (lv_at hl 2 rfl) ?_
    rcases zt_0_19 r2 with h_out | h_in | h_in | h_in | h_in | h_in | h_in | h_in | h_in | h_in | h_in | h_in | h_in | h_in | h_in | h_in | h_in | h_in | h_in | h_in | h_in
    · have h := h.1 h_out
      refine lv_tableOut (tgt := 278) hx hb dX9_wantsTemplate_24 h_out (by decide) ?_
      refine lv_aload_n hx hb dX9_wantsTemplate_278 rfl (lv_at hl 3 rfl) ?_
      refine lv_iload_n hx hb dX9_wantsTemplate_279 rfl (lv_at hl 2 rfl) ?_
      refine lv_iconst (v := 3) hx hb dX9_wantsTemplate_280 (by decide) ?_
      refine lv_isub hx hb dX9_wantsTemplate_281 ?_
      refine lv_iconst (v := 2) hx hb dX9_wantsTemplate_282 (by decide) ?_
      refine lv_iadd hx hb dX9_wantsTemplate_283 ?_
      refine lv_iload hx hb dX9_wantsTemplate_284 (lv_at hl 0 rfl) ?_
      refine lv_iconst (v := 2) hx hb dX9_wantsTemplate_286 (by decide) ?_
      refine lv_isub hx hb dX9_wantsTemplate_287 ?_
      refine lv_iload hx hb dX9_wantsTemplate_288 (lv_at hl 0 rfl) ?_
      refine lv_iconst (v := 1) hx hb dX9_wantsTemplate_290 (by decide) ?_
      refine lv_isub hx hb dX9_wantsTemplate_291 ?_
      refine lv_iload_n hx hb dX9_wantsTemplate_292 rfl (lv_at hl 5 rfl) ?_
      obtain ⟨p_7, hp_7⟩ := cget_15 cI cZ cP cF q S
      have hi_7 : cin S 15 0 := Or.inl ⟨by decide, rfl⟩
      have hFc := zm_free hD hS hA
      refine va_calli (va_runV (As := [.int ((r2 - 3) + 2), .int ((7 + r6) - 2), .int ((7 + r6) - 1), .int a2]) (rest := []) ⟨hx, hb, hml, hown, hts⟩ (zd_X9_isResultKnown l D cI cZ cP cF q S ((r2 - 3) + 2) ((7 + r6) - 2) ((7 + r6) - 1) a2 H.size _ h) (cwV 4 hts zg_zd_X9_wantsTemplate_zd_X9_isResultKnown_150 rfl rfl rfl (by decide +kernel) ⟨Nat.le_of_ble_eq_true rfl, Nat.le_of_ble_eq_true rfl⟩) ⟨zCW, va_recv hK hP (ci := 9) (q0 := p_7) rfl hp_7, fun U hU hW => ⟨rfl, by rw [hU], by rw [hU]; exact hP, hE.warm hW, hD.weaken (fun _ _ _ _ => trivial)⟩⟩ rfl rfl hl.1 rfl (lv_room (Nat.le_of_ble_eq_true rfl)) dX9_wantsTemplate_293 ⟨Nat.le_of_ble_eq_true rfl, Nat.le_of_ble_eq_true rfl⟩) hS (fun q _ h => hFc q h) hFc (fun r8 S8 t H locs ht hvm h hB hz1 hk1 hS => ?_)
      obtain ⟨hP, hD1, hN1⟩ := hB
      rw [ht] at hP
      have hD := hD1.weaken (fun k q _ hq => hFc q.1 hq)
      have hN := hN1.trans hN
      refine lv_if_ne (tgt := 303) hx hb dX9_wantsTemplate_296 (by decide) (fun c_9 => ?_) (fun c_9 => ?_)
      · have h := h.1 c_9
        refine lv_iconst (v := 0) hx hb dX9_wantsTemplate_303 (by decide) ?_
        exact W.zret (v := 0) (ty := .boolean) hx hb hr (by decide) (fun t ht hW => ⟨⟨_, S8, rfl, h, by rw [ht]; exact hP, hD, hN⟩, hS.F ht⟩) hS.2.2 dX9_wantsTemplate_304
      · have h := h.2 c_9
        refine lv_iconst (v := 1) hx hb dX9_wantsTemplate_299 (by decide) ?_
        refine lv_goto (tgt := 304) hx hb dX9_wantsTemplate_300 (by decide) ?_
        exact W.zret (v := 1) (ty := .boolean) hx hb hr (by decide) (fun t ht hW => ⟨⟨_, S8, rfl, h, by rw [ht]; exact hP, hD, hN⟩, hS.F ht⟩) hS.2.2 dX9_wantsTemplate_304
    · have h := h.2.1 h_in
      refine lv_tableIn (off := 96) (tgt := 120) hx hb dX9_wantsTemplate_24 (by rw [h_in]; decide) (by rw [h_in]; decide) (by rw [h_in]; decide) (by decide) ?_
      refine lv_aload_n hx hb dX9_wantsTemplate_120 rfl (lv_at hl 3 rfl) ?_
      refine lv_iload hx hb dX9_wantsTemplate_121 (lv_at hl 0 rfl) ?_
      refine lv_iload hx hb dX9_wantsTemplate_123 (lv_at hl 1 rfl) ?_
      obtain ⟨p_10, hp_10⟩ := cget_15 cI cZ cP cF q S
      have hi_10 : cin S 15 0 := Or.inl ⟨by decide, rfl⟩
      have hFc := zm_free hD hS hA
      refine va_callv (va_runV (As := [.int (7 + r6), .int r4]) (rest := []) ⟨hx, hb, hml, hown, hts⟩ (zd_X9_know l D cI cZ cP cF q S (7 + r6) r4 H.size _ h) (cwV 2 hts zg_zd_X9_wantsTemplate_zd_X9_know_125 rfl rfl rfl (by decide +kernel) ⟨Nat.le_of_ble_eq_true rfl, Nat.le_of_ble_eq_true rfl⟩) ⟨zCW, va_recv hK hP (ci := 9) (q0 := p_10) rfl hp_10, fun U hU hW => ⟨rfl, by rw [hU], by rw [hU]; exact hP, hE.warm hW, hD.weaken (fun _ _ _ _ => trivial)⟩⟩ rfl rfl hl.1 rfl (lv_room (Nat.le_of_ble_eq_true rfl)) dX9_wantsTemplate_125 ⟨Nat.le_of_ble_eq_true rfl, Nat.le_of_ble_eq_true rfl⟩) hS (fun q _ h => hFc q h) hFc (fun S11 t H locs ht hvm h hB hz1 hk1 hS => ?_)
      obtain ⟨hP, hD1, hN1⟩ := hB
      rw [ht] at hP
      have hD := hD1.weaken (fun k q _ hq => hFc q.1 hq)
      have hN := hN1.trans hN
      refine lv_iconst (v := 0) hx hb dX9_wantsTemplate_128 (by decide) ?_
      exact W.zret (v := 0) (ty := .boolean) hx hb hr (by decide) (fun t ht hW => ⟨⟨_, S11, rfl, h, by rw [ht]; exact hP, hD, hN⟩, hS.F ht⟩) hS.2.2 dX9_wantsTemplate_129
    · have h := h.2.2.1 h_in
      refine lv_tableIn (off := 106) (tgt := 130) hx hb dX9_wantsTemplate_24 (by rw [h_in]; decide) (by rw [h_in]; decide) (by rw [h_in]; decide) (by decide) ?_
      refine lv_aload_n hx hb dX9_wantsTemplate_130 rfl (lv_at hl 3 rfl) ?_
      refine lv_iload hx hb dX9_wantsTemplate_131 (lv_at hl 1 rfl) ?_
      refine lv_iload hx hb dX9_wantsTemplate_133 (lv_at hl 0 rfl) ?_
      obtain ⟨p_12, hp_12⟩ := cget_15 cI cZ cP cF q S
      have hi_12 : cin S 15 0 := Or.inl ⟨by decide, rfl⟩
      have hFc := zm_free hD hS hA
      refine va_calli (va_runV (As := [.int r4, .int (7 + r6)]) (rest := []) ⟨hx, hb, hml, hown, hts⟩ (zd_X9_isCopyKnown l D cI cZ cP cF q S r4 (7 + r6) H.size _ h) (cwV 2 hts zg_zd_X9_wantsTemplate_zd_X9_isCopyKnown_132 rfl rfl rfl (by decide +kernel) ⟨Nat.le_of_ble_eq_true rfl, Nat.le_of_ble_eq_true rfl⟩) ⟨zCW, va_recv hK hP (ci := 9) (q0 := p_12) rfl hp_12, fun U hU hW => ⟨rfl, by rw [hU], by rw [hU]; exact hP, hE.warm hW, hD.weaken (fun _ _ _ _ => trivial)⟩⟩ rfl rfl hl.1 rfl (lv_room (Nat.le_of_ble_eq_true rfl)) dX9_wantsTemplate_135 ⟨Nat.le_of_ble_eq_true rfl, Nat.le_of_ble_eq_true rfl⟩) hS (fun q _ h => hFc q h) hFc (fun r13 S13 t H locs ht hvm h hB hz1 hk1 hS => ?_)
      obtain ⟨hP, hD1, hN1⟩ := hB
      rw [ht] at hP
      have hD := hD1.weaken (fun k q _ hq => hFc q.1 hq)
      have hN := hN1.trans hN
      refine lv_if_ne (tgt := 145) hx hb dX9_wantsTemplate_138 (by decide) (fun c_14 => ?_) (fun c_14 => ?_)
      · have h := h.1 c_14
        refine lv_iconst (v := 0) hx hb dX9_wantsTemplate_145 (by decide) ?_
        exact W.zret (v := 0) (ty := .boolean) hx hb hr (by decide) (fun t ht hW => ⟨⟨_, S13, rfl, h, by rw [ht]; exact hP, hD, hN⟩, hS.F ht⟩) hS.2.2 dX9_wantsTemplate_146
      · have h := h.2 c_14
        refine lv_iconst (v := 1) hx hb dX9_wantsTemplate_141 (by decide) ?_
        refine lv_goto (tgt := 146) hx hb dX9_wantsTemplate_142 (by decide) ?_
        exact W.zret (v := 1) (ty := .boolean) hx hb hr (by decide) (fun t ht hW => ⟨⟨_, S13, rfl, h, by rw [ht]; exact hP, hD, hN⟩, hS.F ht⟩) hS.2.2 dX9_wantsTemplate_146
    · have h := h.2.2.2.1 h_in
      refine lv_tableIn (off := 142) (tgt := 166) hx hb dX9_wantsTemplate_24 (by rw [h_in]; decide) (by rw [h_in]; decide) (by rw [h_in]; decide) (by decide) ?_
      refine lv_aload_n hx hb dX9_wantsTemplate_166 rfl (lv_at hl 3 rfl) ?_
      refine lv_iload hx hb dX9_wantsTemplate_167 (lv_at hl 1 rfl) ?_
      refine lv_iload hx hb dX9_wantsTemplate_169 (lv_at hl 0 rfl) ?_
      refine lv_iconst (v := 1) hx hb dX9_wantsTemplate_171 (by decide) ?_
      refine lv_isub hx hb dX9_wantsTemplate_172 ?_
      refine lv_iload_n hx hb dX9_wantsTemplate_173 rfl (lv_at hl 5 rfl) ?_
      obtain ⟨p_15, hp_15⟩ := cget_15 cI cZ cP cF q S
      have hi_15 : cin S 15 0 := Or.inl ⟨by decide, rfl⟩
      have hFc := zm_free hD hS hA
      refine va_calli (va_runV (As := [.int r4, .int ((7 + r6) - 1), .int a2]) (rest := []) ⟨hx, hb, hml, hown, hts⟩ (zd_X9_isStoredKnown l D cI cZ cP cF q S r4 ((7 + r6) - 1) a2 H.size _ h) (cwV 3 hts zg_zd_X9_wantsTemplate_zd_X9_isStoredKnown_136 rfl rfl rfl (by decide +kernel) ⟨Nat.le_of_ble_eq_true rfl, Nat.le_of_ble_eq_true rfl⟩) ⟨zCW, va_recv hK hP (ci := 9) (q0 := p_15) rfl hp_15, fun U hU hW => ⟨rfl, by rw [hU], by rw [hU]; exact hP, hE.warm hW, hD.weaken (fun _ _ _ _ => trivial)⟩⟩ rfl rfl hl.1 rfl (lv_room (Nat.le_of_ble_eq_true rfl)) dX9_wantsTemplate_174 ⟨Nat.le_of_ble_eq_true rfl, Nat.le_of_ble_eq_true rfl⟩) hS (fun q _ h => hFc q h) hFc (fun r16 S16 t H locs ht hvm h hB hz1 hk1 hS => ?_)
      obtain ⟨hP, hD1, hN1⟩ := hB
      rw [ht] at hP
      have hD := hD1.weaken (fun k q _ hq => hFc q.1 hq)
      have hN := hN1.trans hN
      refine lv_if_ne (tgt := 184) hx hb dX9_wantsTemplate_177 (by decide) (fun c_17 => ?_) (fun c_17 => ?_)
      · have h := h.1 c_17
        refine lv_iconst (v := 0) hx hb dX9_wantsTemplate_184 (by decide) ?_
        exact W.zret (v := 0) (ty := .boolean) hx hb hr (by decide) (fun t ht hW => ⟨⟨_, S16, rfl, h, by rw [ht]; exact hP, hD, hN⟩, hS.F ht⟩) hS.2.2 dX9_wantsTemplate_185
      · have h := h.2 c_17
        refine lv_iconst (v := 1) hx hb dX9_wantsTemplate_180 (by decide) ?_
        refine lv_goto (tgt := 185) hx hb dX9_wantsTemplate_181 (by decide) ?_
        exact W.zret (v := 1) (ty := .boolean) hx hb hr (by decide) (fun t ht hW => ⟨⟨_, S16, rfl, h, by rw [ht]; exact hP, hD, hN⟩, hS.F ht⟩) hS.2.2 dX9_wantsTemplate_185
    · have h := h.2.2.2.2.1 h_in
      refine lv_tableIn (off := 254) (tgt := 278) hx hb dX9_wantsTemplate_24 (by rw [h_in]; decide) (by rw [h_in]; decide) (by rw [h_in]; decide) (by decide) ?_
      refine lv_aload_n hx hb dX9_wantsTemplate_278 rfl (lv_at hl 3 rfl) ?_
      refine lv_iload_n hx hb dX9_wantsTemplate_279 rfl (lv_at hl 2 rfl) ?_
      refine lv_iconst (v := 3) hx hb dX9_wantsTemplate_280 (by decide) ?_
      refine lv_isub hx hb dX9_wantsTemplate_281 ?_
      refine lv_iconst (v := 2) hx hb dX9_wantsTemplate_282 (by decide) ?_
      refine lv_iadd hx hb dX9_wantsTemplate_283 ?_
      refine lv_iload hx hb dX9_wantsTemplate_284 (lv_at hl 0 rfl) ?_
      refine lv_iconst (v := 2) hx hb dX9_wantsTemplate_286 (by decide) ?_
      refine lv_isub hx hb dX9_wantsTemplate_287 ?_
      refine lv_iload hx hb dX9_wantsTemplate_288 (lv_at hl 0 rfl) ?_
      refine lv_iconst (v := 1) hx hb dX9_wantsTemplate_290 (by decide) ?_
      refine lv_isub hx hb dX9_wantsTemplate_291 ?_
      refine lv_iload_n hx hb dX9_wantsTemplate_292 rfl (lv_at hl 5 rfl) ?_
      obtain ⟨p_18, hp_18⟩ := cget_15 cI cZ cP cF q S
      have hi_18 : cin S 15 0 := Or.inl ⟨by decide, rfl⟩
      have hFc := zm_free hD hS hA
      refine va_calli (va_runV (As := [.int ((r2 - 3) + 2), .int ((7 + r6) - 2), .int ((7 + r6) - 1), .int a2]) (rest := []) ⟨hx, hb, hml, hown, hts⟩ (zd_X9_isResultKnown l D cI cZ cP cF q S ((r2 - 3) + 2) ((7 + r6) - 2) ((7 + r6) - 1) a2 H.size _ h) (cwV 4 hts zg_zd_X9_wantsTemplate_zd_X9_isResultKnown_150 rfl rfl rfl (by decide +kernel) ⟨Nat.le_of_ble_eq_true rfl, Nat.le_of_ble_eq_true rfl⟩) ⟨zCW, va_recv hK hP (ci := 9) (q0 := p_18) rfl hp_18, fun U hU hW => ⟨rfl, by rw [hU], by rw [hU]; exact hP, hE.warm hW, hD.weaken (fun _ _ _ _ => trivial)⟩⟩ rfl rfl hl.1 rfl (lv_room (Nat.le_of_ble_eq_true rfl)) dX9_wantsTemplate_293 ⟨Nat.le_of_ble_eq_true rfl, Nat.le_of_ble_eq_true rfl⟩) hS (fun q _ h => hFc q h) hFc (fun r19 S19 t H locs ht hvm h hB hz1 hk1 hS => ?_)
      obtain ⟨hP, hD1, hN1⟩ := hB
      rw [ht] at hP
      have hD := hD1.weaken (fun k q _ hq => hFc q.1 hq)
      have hN := hN1.trans hN
      refine lv_if_ne (tgt := 303) hx hb dX9_wantsTemplate_296 (by decide) (fun c_20 => ?_) (fun c_20 => ?_)
      · have h := h.1 c_20
        refine lv_iconst (v := 0) hx hb dX9_wantsTemplate_303 (by decide) ?_
        exact W.zret (v := 0) (ty := .boolean) hx hb hr (by decide) (fun t ht hW => ⟨⟨_, S19, rfl, h, by rw [ht]; exact hP, hD, hN⟩, hS.F ht⟩) hS.2.2 dX9_wantsTemplate_304
      · have h := h.2 c_20
        refine lv_iconst (v := 1) hx hb dX9_wantsTemplate_299 (by decide) ?_
        refine lv_goto (tgt := 304) hx hb dX9_wantsTemplate_300 (by decide) ?_
        exact W.zret (v := 1) (ty := .boolean) hx hb hr (by decide) (fun t ht hW => ⟨⟨_, S19, rfl, h, by rw [ht]; exact hP, hD, hN⟩, hS.F ht⟩) hS.2.2 dX9_wantsTemplate_304
    · have h := h.2.2.2.2.2.1 h_in
      refine lv_tableIn (off := 254) (tgt := 278) hx hb dX9_wantsTemplate_24 (by rw [h_in]; decide) (by rw [h_in]; decide) (by rw [h_in]; decide) (by decide) ?_
      refine lv_aload_n hx hb dX9_wantsTemplate_278 rfl (lv_at hl 3 rfl) ?_
      refine lv_iload_n hx hb dX9_wantsTemplate_279 rfl (lv_at hl 2 rfl) ?_
      refine lv_iconst (v := 3) hx hb dX9_wantsTemplate_280 (by decide) ?_
      refine lv_isub hx hb dX9_wantsTemplate_281 ?_
      refine lv_iconst (v := 2) hx hb dX9_wantsTemplate_282 (by decide) ?_
      refine lv_iadd hx hb dX9_wantsTemplate_283 ?_
      refine lv_iload hx hb dX9_wantsTemplate_284 (lv_at hl 0 rfl) ?_
      refine lv_iconst (v := 2) hx hb dX9_wantsTemplate_286 (by decide) ?_
      refine lv_isub hx hb dX9_wantsTemplate_287 ?_
      refine lv_iload hx hb dX9_wantsTemplate_288 (lv_at hl 0 rfl) ?_
      refine lv_iconst (v := 1) hx hb dX9_wantsTemplate_290 (by decide) ?_
      refine lv_isub hx hb dX9_wantsTemplate_291 ?_
      refine lv_iload_n hx hb dX9_wantsTemplate_292 rfl (lv_at hl 5 rfl) ?_
      obtain ⟨p_21, hp_21⟩ := cget_15 cI cZ cP cF q S
      have hi_21 : cin S 15 0 := Or.inl ⟨by decide, rfl⟩
      have hFc := zm_free hD hS hA
      refine va_calli (va_runV (As := [.int ((r2 - 3) + 2), .int ((7 + r6) - 2), .int ((7 + r6) - 1), .int a2]) (rest := []) ⟨hx, hb, hml, hown, hts⟩ (zd_X9_isResultKnown l D cI cZ cP cF q S ((r2 - 3) + 2) ((7 + r6) - 2) ((7 + r6) - 1) a2 H.size _ h) (cwV 4 hts zg_zd_X9_wantsTemplate_zd_X9_isResultKnown_150 rfl rfl rfl (by decide +kernel) ⟨Nat.le_of_ble_eq_true rfl, Nat.le_of_ble_eq_true rfl⟩) ⟨zCW, va_recv hK hP (ci := 9) (q0 := p_21) rfl hp_21, fun U hU hW => ⟨rfl, by rw [hU], by rw [hU]; exact hP, hE.warm hW, hD.weaken (fun _ _ _ _ => trivial)⟩⟩ rfl rfl hl.1 rfl (lv_room (Nat.le_of_ble_eq_true rfl)) dX9_wantsTemplate_293 ⟨Nat.le_of_ble_eq_true rfl, Nat.le_of_ble_eq_true rfl⟩) hS (fun q _ h => hFc q h) hFc (fun r22 S22 t H locs ht hvm h hB hz1 hk1 hS => ?_)
      obtain ⟨hP, hD1, hN1⟩ := hB
      rw [ht] at hP
      have hD := hD1.weaken (fun k q _ hq => hFc q.1 hq)
      have hN := hN1.trans hN
      refine lv_if_ne (tgt := 303) hx hb dX9_wantsTemplate_296 (by decide) (fun c_23 => ?_) (fun c_23 => ?_)
      · have h := h.1 c_23
        refine lv_iconst (v := 0) hx hb dX9_wantsTemplate_303 (by decide) ?_
        exact W.zret (v := 0) (ty := .boolean) hx hb hr (by decide) (fun t ht hW => ⟨⟨_, S22, rfl, h, by rw [ht]; exact hP, hD, hN⟩, hS.F ht⟩) hS.2.2 dX9_wantsTemplate_304
      · have h := h.2 c_23
        refine lv_iconst (v := 1) hx hb dX9_wantsTemplate_299 (by decide) ?_
        refine lv_goto (tgt := 304) hx hb dX9_wantsTemplate_300 (by decide) ?_
        exact W.zret (v := 1) (ty := .boolean) hx hb hr (by decide) (fun t ht hW => ⟨⟨_, S22, rfl, h, by rw [ht]; exact hP, hD, hN⟩, hS.F ht⟩) hS.2.2 dX9_wantsTemplate_304
    · have h := h.2.2.2.2.2.2.1 h_in
      refine lv_tableIn (off := 254) (tgt := 278) hx hb dX9_wantsTemplate_24 (by rw [h_in]; decide) (by rw [h_in]; decide) (by rw [h_in]; decide) (by decide) ?_
      refine lv_aload_n hx hb dX9_wantsTemplate_278 rfl (lv_at hl 3 rfl) ?_
      refine lv_iload_n hx hb dX9_wantsTemplate_279 rfl (lv_at hl 2 rfl) ?_
      refine lv_iconst (v := 3) hx hb dX9_wantsTemplate_280 (by decide) ?_
      refine lv_isub hx hb dX9_wantsTemplate_281 ?_
      refine lv_iconst (v := 2) hx hb dX9_wantsTemplate_282 (by decide) ?_
      refine lv_iadd hx hb dX9_wantsTemplate_283 ?_
      refine lv_iload hx hb dX9_wantsTemplate_284 (lv_at hl 0 rfl) ?_
      refine lv_iconst (v := 2) hx hb dX9_wantsTemplate_286 (by decide) ?_
      refine lv_isub hx hb dX9_wantsTemplate_287 ?_
      refine lv_iload hx hb dX9_wantsTemplate_288 (lv_at hl 0 rfl) ?_
      refine lv_iconst (v := 1) hx hb dX9_wantsTemplate_290 (by decide) ?_
      refine lv_isub hx hb dX9_wantsTemplate_291 ?_
      refine lv_iload_n hx hb dX9_wantsTemplate_292 rfl (lv_at hl 5 rfl) ?_
      obtain ⟨p_24, hp_24⟩ := cget_15 cI cZ cP cF q S
      have hi_24 : cin S 15 0 := Or.inl ⟨by decide, rfl⟩
      have hFc := zm_free hD hS hA
      refine va_calli (va_runV (As := [.int ((r2 - 3) + 2), .int ((7 + r6) - 2), .int ((7 + r6) - 1), .int a2]) (rest := []) ⟨hx, hb, hml, hown, hts⟩ (zd_X9_isResultKnown l D cI cZ cP cF q S ((r2 - 3) + 2) ((7 + r6) - 2) ((7 + r6) - 1) a2 H.size _ h) (cwV 4 hts zg_zd_X9_wantsTemplate_zd_X9_isResultKnown_150 rfl rfl rfl (by decide +kernel) ⟨Nat.le_of_ble_eq_true rfl, Nat.le_of_ble_eq_true rfl⟩) ⟨zCW, va_recv hK hP (ci := 9) (q0 := p_24) rfl hp_24, fun U hU hW => ⟨rfl, by rw [hU], by rw [hU]; exact hP, hE.warm hW, hD.weaken (fun _ _ _ _ => trivial)⟩⟩ rfl rfl hl.1 rfl (lv_room (Nat.le_of_ble_eq_true rfl)) dX9_wantsTemplate_293 ⟨Nat.le_of_ble_eq_true rfl, Nat.le_of_ble_eq_true rfl⟩) hS (fun q _ h => hFc q h) hFc (fun r25 S25 t H locs ht hvm h hB hz1 hk1 hS => ?_)
      obtain ⟨hP, hD1, hN1⟩ := hB
      rw [ht] at hP
      have hD := hD1.weaken (fun k q _ hq => hFc q.1 hq)
      have hN := hN1.trans hN
      refine lv_if_ne (tgt := 303) hx hb dX9_wantsTemplate_296 (by decide) (fun c_26 => ?_) (fun c_26 => ?_)
      · have h := h.1 c_26
        refine lv_iconst (v := 0) hx hb dX9_wantsTemplate_303 (by decide) ?_
        exact W.zret (v := 0) (ty := .boolean) hx hb hr (by decide) (fun t ht hW => ⟨⟨_, S25, rfl, h, by rw [ht]; exact hP, hD, hN⟩, hS.F ht⟩) hS.2.2 dX9_wantsTemplate_304
      · have h := h.2 c_26
        refine lv_iconst (v := 1) hx hb dX9_wantsTemplate_299 (by decide) ?_
        refine lv_goto (tgt := 304) hx hb dX9_wantsTemplate_300 (by decide) ?_
        exact W.zret (v := 1) (ty := .boolean) hx hb hr (by decide) (fun t ht hW => ⟨⟨_, S25, rfl, h, by rw [ht]; exact hP, hD, hN⟩, hS.F ht⟩) hS.2.2 dX9_wantsTemplate_304
    · have h := h.2.2.2.2.2.2.2.1 h_in
      refine lv_tableIn (off := 254) (tgt := 278) hx hb dX9_wantsTemplate_24 (by rw [h_in]; decide) (by rw [h_in]; decide) (by rw [h_in]; decide) (by decide) ?_
      refine lv_aload_n hx hb dX9_wantsTemplate_278 rfl (lv_at hl 3 rfl) ?_
      refine lv_iload_n hx hb dX9_wantsTemplate_279 rfl (lv_at hl 2 rfl) ?_
      refine lv_iconst (v := 3) hx hb dX9_wantsTemplate_280 (by decide) ?_
      refine lv_isub hx hb dX9_wantsTemplate_281 ?_
      refine lv_iconst (v := 2) hx hb dX9_wantsTemplate_282 (by decide) ?_
      refine lv_iadd hx hb dX9_wantsTemplate_283 ?_
      refine lv_iload hx hb dX9_wantsTemplate_284 (lv_at hl 0 rfl) ?_
      refine lv_iconst (v := 2) hx hb dX9_wantsTemplate_286 (by decide) ?_
      refine lv_isub hx hb dX9_wantsTemplate_287 ?_
      refine lv_iload hx hb dX9_wantsTemplate_288 (lv_at hl 0 rfl) ?_
      refine lv_iconst (v := 1) hx hb dX9_wantsTemplate_290 (by decide) ?_
      refine lv_isub hx hb dX9_wantsTemplate_291 ?_
      refine lv_iload_n hx hb dX9_wantsTemplate_292 rfl (lv_at hl 5 rfl) ?_
      obtain ⟨p_27, hp_27⟩ := cget_15 cI cZ cP cF q S
      have hi_27 : cin S 15 0 := Or.inl ⟨by decide, rfl⟩
      have hFc := zm_free hD hS hA
      refine va_calli (va_runV (As := [.int ((r2 - 3) + 2), .int ((7 + r6) - 2), .int ((7 + r6) - 1), .int a2]) (rest := []) ⟨hx, hb, hml, hown, hts⟩ (zd_X9_isResultKnown l D cI cZ cP cF q S ((r2 - 3) + 2) ((7 + r6) - 2) ((7 + r6) - 1) a2 H.size _ h) (cwV 4 hts zg_zd_X9_wantsTemplate_zd_X9_isResultKnown_150 rfl rfl rfl (by decide +kernel) ⟨Nat.le_of_ble_eq_true rfl, Nat.le_of_ble_eq_true rfl⟩) ⟨zCW, va_recv hK hP (ci := 9) (q0 := p_27) rfl hp_27, fun U hU hW => ⟨rfl, by rw [hU], by rw [hU]; exact hP, hE.warm hW, hD.weaken (fun _ _ _ _ => trivial)⟩⟩ rfl rfl hl.1 rfl (lv_room (Nat.le_of_ble_eq_true rfl)) dX9_wantsTemplate_293 ⟨Nat.le_of_ble_eq_true rfl, Nat.le_of_ble_eq_true rfl⟩) hS (fun q _ h => hFc q h) hFc (fun r28 S28 t H locs ht hvm h hB hz1 hk1 hS => ?_)
      obtain ⟨hP, hD1, hN1⟩ := hB
      rw [ht] at hP
      have hD := hD1.weaken (fun k q _ hq => hFc q.1 hq)
      have hN := hN1.trans hN
      refine lv_if_ne (tgt := 303) hx hb dX9_wantsTemplate_296 (by decide) (fun c_29 => ?_) (fun c_29 => ?_)
      · have h := h.1 c_29
        refine lv_iconst (v := 0) hx hb dX9_wantsTemplate_303 (by decide) ?_
        exact W.zret (v := 0) (ty := .boolean) hx hb hr (by decide) (fun t ht hW => ⟨⟨_, S28, rfl, h, by rw [ht]; exact hP, hD, hN⟩, hS.F ht⟩) hS.2.2 dX9_wantsTemplate_304
      · have h := h.2 c_29
        refine lv_iconst (v := 1) hx hb dX9_wantsTemplate_299 (by decide) ?_
        refine lv_goto (tgt := 304) hx hb dX9_wantsTemplate_300 (by decide) ?_
        exact W.zret (v := 1) (ty := .boolean) hx hb hr (by decide) (fun t ht hW => ⟨⟨_, S28, rfl, h, by rw [ht]; exact hP, hD, hN⟩, hS.F ht⟩) hS.2.2 dX9_wantsTemplate_304
    · have h := h.2.2.2.2.2.2.2.2.1 h_in
      refine lv_tableIn (off := 254) (tgt := 278) hx hb dX9_wantsTemplate_24 (by rw [h_in]; decide) (by rw [h_in]; decide) (by rw [h_in]; decide) (by decide) ?_
      refine lv_aload_n hx hb dX9_wantsTemplate_278 rfl (lv_at hl 3 rfl) ?_
      refine lv_iload_n hx hb dX9_wantsTemplate_279 rfl (lv_at hl 2 rfl) ?_
      refine lv_iconst (v := 3) hx hb dX9_wantsTemplate_280 (by decide) ?_
      refine lv_isub hx hb dX9_wantsTemplate_281 ?_
      refine lv_iconst (v := 2) hx hb dX9_wantsTemplate_282 (by decide) ?_
      refine lv_iadd hx hb dX9_wantsTemplate_283 ?_
      refine lv_iload hx hb dX9_wantsTemplate_284 (lv_at hl 0 rfl) ?_
      refine lv_iconst (v := 2) hx hb dX9_wantsTemplate_286 (by decide) ?_
      refine lv_isub hx hb dX9_wantsTemplate_287 ?_
      refine lv_iload hx hb dX9_wantsTemplate_288 (lv_at hl 0 rfl) ?_
      refine lv_iconst (v := 1) hx hb dX9_wantsTemplate_290 (by decide) ?_
      refine lv_isub hx hb dX9_wantsTemplate_291 ?_
      refine lv_iload_n hx hb dX9_wantsTemplate_292 rfl (lv_at hl 5 rfl) ?_
      obtain ⟨p_30, hp_30⟩ := cget_15 cI cZ cP cF q S
      have hi_30 : cin S 15 0 := Or.inl ⟨by decide, rfl⟩
      have hFc := zm_free hD hS hA
      refine va_calli (va_runV (As := [.int ((r2 - 3) + 2), .int ((7 + r6) - 2), .int ((7 + r6) - 1), .int a2]) (rest := []) ⟨hx, hb, hml, hown, hts⟩ (zd_X9_isResultKnown l D cI cZ cP cF q S ((r2 - 3) + 2) ((7 + r6) - 2) ((7 + r6) - 1) a2 H.size _ h) (cwV 4 hts zg_zd_X9_wantsTemplate_zd_X9_isResultKnown_150 rfl rfl rfl (by decide +kernel) ⟨Nat.le_of_ble_eq_true rfl, Nat.le_of_ble_eq_true rfl⟩) ⟨zCW, va_recv hK hP (ci := 9) (q0 := p_30) rfl hp_30, fun U hU hW => ⟨rfl, by rw [hU], by rw [hU]; exact hP, hE.warm hW, hD.weaken (fun _ _ _ _ => trivial)⟩⟩ rfl rfl hl.1 rfl (lv_room (Nat.le_of_ble_eq_true rfl)) dX9_wantsTemplate_293 ⟨Nat.le_of_ble_eq_true rfl, Nat.le_of_ble_eq_true rfl⟩) hS (fun q _ h => hFc q h) hFc (fun r31 S31 t H locs ht hvm h hB hz1 hk1 hS => ?_)
      obtain ⟨hP, hD1, hN1⟩ := hB
      rw [ht] at hP
      have hD := hD1.weaken (fun k q _ hq => hFc q.1 hq)
      have hN := hN1.trans hN
      refine lv_if_ne (tgt := 303) hx hb dX9_wantsTemplate_296 (by decide) (fun c_32 => ?_) (fun c_32 => ?_)
      · have h := h.1 c_32
        refine lv_iconst (v := 0) hx hb dX9_wantsTemplate_303 (by decide) ?_
        exact W.zret (v := 0) (ty := .boolean) hx hb hr (by decide) (fun t ht hW => ⟨⟨_, S31, rfl, h, by rw [ht]; exact hP, hD, hN⟩, hS.F ht⟩) hS.2.2 dX9_wantsTemplate_304
      · have h := h.2 c_32
        refine lv_iconst (v := 1) hx hb dX9_wantsTemplate_299 (by decide) ?_
        refine lv_goto (tgt := 304) hx hb dX9_wantsTemplate_300 (by decide) ?_
        exact W.zret (v := 1) (ty := .boolean) hx hb hr (by decide) (fun t ht hW => ⟨⟨_, S31, rfl, h, by rw [ht]; exact hP, hD, hN⟩, hS.F ht⟩) hS.2.2 dX9_wantsTemplate_304
    · have h := h.2.2.2.2.2.2.2.2.2.1 h_in
      refine lv_tableIn (off := 254) (tgt := 278) hx hb dX9_wantsTemplate_24 (by rw [h_in]; decide) (by rw [h_in]; decide) (by rw [h_in]; decide) (by decide) ?_
      refine lv_aload_n hx hb dX9_wantsTemplate_278 rfl (lv_at hl 3 rfl) ?_
      refine lv_iload_n hx hb dX9_wantsTemplate_279 rfl (lv_at hl 2 rfl) ?_
      refine lv_iconst (v := 3) hx hb dX9_wantsTemplate_280 (by decide) ?_
      refine lv_isub hx hb dX9_wantsTemplate_281 ?_
      refine lv_iconst (v := 2) hx hb dX9_wantsTemplate_282 (by decide) ?_
      refine lv_iadd hx hb dX9_wantsTemplate_283 ?_
      refine lv_iload hx hb dX9_wantsTemplate_284 (lv_at hl 0 rfl) ?_
      refine lv_iconst (v := 2) hx hb dX9_wantsTemplate_286 (by decide) ?_
      refine lv_isub hx hb dX9_wantsTemplate_287 ?_
      refine lv_iload hx hb dX9_wantsTemplate_288 (lv_at hl 0 rfl) ?_
      refine lv_iconst (v := 1) hx hb dX9_wantsTemplate_290 (by decide) ?_
      refine lv_isub hx hb dX9_wantsTemplate_291 ?_
      refine lv_iload_n hx hb dX9_wantsTemplate_292 rfl (lv_at hl 5 rfl) ?_
      obtain ⟨p_33, hp_33⟩ := cget_15 cI cZ cP cF q S
      have hi_33 : cin S 15 0 := Or.inl ⟨by decide, rfl⟩
      have hFc := zm_free hD hS hA
      refine va_calli (va_runV (As := [.int ((r2 - 3) + 2), .int ((7 + r6) - 2), .int ((7 + r6) - 1), .int a2]) (rest := []) ⟨hx, hb, hml, hown, hts⟩ (zd_X9_isResultKnown l D cI cZ cP cF q S ((r2 - 3) + 2) ((7 + r6) - 2) ((7 + r6) - 1) a2 H.size _ h) (cwV 4 hts zg_zd_X9_wantsTemplate_zd_X9_isResultKnown_150 rfl rfl rfl (by decide +kernel) ⟨Nat.le_of_ble_eq_true rfl, Nat.le_of_ble_eq_true rfl⟩) ⟨zCW, va_recv hK hP (ci := 9) (q0 := p_33) rfl hp_33, fun U hU hW => ⟨rfl, by rw [hU], by rw [hU]; exact hP, hE.warm hW, hD.weaken (fun _ _ _ _ => trivial)⟩⟩ rfl rfl hl.1 rfl (lv_room (Nat.le_of_ble_eq_true rfl)) dX9_wantsTemplate_293 ⟨Nat.le_of_ble_eq_true rfl, Nat.le_of_ble_eq_true rfl⟩) hS (fun q _ h => hFc q h) hFc (fun r34 S34 t H locs ht hvm h hB hz1 hk1 hS => ?_)
      obtain ⟨hP, hD1, hN1⟩ := hB
      rw [ht] at hP
      have hD := hD1.weaken (fun k q _ hq => hFc q.1 hq)
      have hN := hN1.trans hN
      refine lv_if_ne (tgt := 303) hx hb dX9_wantsTemplate_296 (by decide) (fun c_35 => ?_) (fun c_35 => ?_)
      · have h := h.1 c_35
        refine lv_iconst (v := 0) hx hb dX9_wantsTemplate_303 (by decide) ?_
        exact W.zret (v := 0) (ty := .boolean) hx hb hr (by decide) (fun t ht hW => ⟨⟨_, S34, rfl, h, by rw [ht]; exact hP, hD, hN⟩, hS.F ht⟩) hS.2.2 dX9_wantsTemplate_304
      · have h := h.2 c_35
        refine lv_iconst (v := 1) hx hb dX9_wantsTemplate_299 (by decide) ?_
        refine lv_goto (tgt := 304) hx hb dX9_wantsTemplate_300 (by decide) ?_
        exact W.zret (v := 1) (ty := .boolean) hx hb hr (by decide) (fun t ht hW => ⟨⟨_, S34, rfl, h, by rw [ht]; exact hP, hD, hN⟩, hS.F ht⟩) hS.2.2 dX9_wantsTemplate_304
    · have h := h.2.2.2.2.2.2.2.2.2.2.1 h_in
      refine lv_tableIn (off := 192) (tgt := 216) hx hb dX9_wantsTemplate_24 (by rw [h_in]; decide) (by rw [h_in]; decide) (by rw [h_in]; decide) (by decide) ?_
      refine lv_aload_n hx hb dX9_wantsTemplate_216 rfl (lv_at hl 3 rfl) ?_
      refine lv_bipush (v := 7) hx hb dX9_wantsTemplate_217 (by decide) ?_
      refine lv_bipush (v := 14) hx hb dX9_wantsTemplate_219 (by decide) ?_
      refine lv_iload_n hx hb dX9_wantsTemplate_221 rfl (lv_at hl 5 rfl) ?_
      obtain ⟨p_36, hp_36⟩ := cget_15 cI cZ cP cF q S
      have hi_36 : cin S 15 0 := Or.inl ⟨by decide, rfl⟩
      have hFc := zm_free hD hS hA
      refine va_callv (va_runV (As := [.int 7, .int 14, .int a2]) (rest := []) ⟨hx, hb, hml, hown, hts⟩ (zd_X9_lay l D cI cZ cP cF q S 7 14 a2 H.size _ h) (cwV 3 hts zg_zd_X9_wantsTemplate_zd_X9_lay_66 rfl rfl rfl (by decide +kernel) ⟨Nat.le_of_ble_eq_true rfl, Nat.le_of_ble_eq_true rfl⟩) ⟨zCW, va_recv hK hP (ci := 9) (q0 := p_36) rfl hp_36, fun U hU hW => ⟨rfl, by rw [hU], by rw [hU]; exact hP, hE.warm hW, hD.weaken (fun _ _ _ _ => trivial)⟩⟩ rfl rfl hl.1 rfl (lv_room (Nat.le_of_ble_eq_true rfl)) dX9_wantsTemplate_222 ⟨Nat.le_of_ble_eq_true rfl, Nat.le_of_ble_eq_true rfl⟩) hS (fun q _ h => hFc q h) hFc (fun S37 t H locs ht hvm h hB hz1 hk1 hS => ?_)
      obtain ⟨hP, hD1, hN1⟩ := hB
      rw [ht] at hP
      have hD := hD1.weaken (fun k q _ hq => hFc q.1 hq)
      have hN := hN1.trans hN
      refine lv_iconst (v := 1) hx hb dX9_wantsTemplate_225 (by decide) ?_
      exact W.zret (v := 1) (ty := .boolean) hx hb hr (by decide) (fun t ht hW => ⟨⟨_, S37, rfl, h, by rw [ht]; exact hP, hD, hN⟩, hS.F ht⟩) hS.2.2 dX9_wantsTemplate_226
    · have h := h.2.2.2.2.2.2.2.2.2.2.2.1 h_in
      refine lv_tableIn (off := 172) (tgt := 196) hx hb dX9_wantsTemplate_24 (by rw [h_in]; decide) (by rw [h_in]; decide) (by rw [h_in]; decide) (by decide) ?_
      refine lv_aload_n hx hb dX9_wantsTemplate_196 rfl (lv_at hl 3 rfl) ?_
      refine lv_iload hx hb dX9_wantsTemplate_197 (lv_at hl 1 rfl) ?_
      refine lv_iload hx hb dX9_wantsTemplate_199 (lv_at hl 0 rfl) ?_
      refine lv_iconst (v := 1) hx hb dX9_wantsTemplate_201 (by decide) ?_
      refine lv_isub hx hb dX9_wantsTemplate_202 ?_
      refine lv_iload_n hx hb dX9_wantsTemplate_203 rfl (lv_at hl 5 rfl) ?_
      obtain ⟨p_38, hp_38⟩ := cget_15 cI cZ cP cF q S
      have hi_38 : cin S 15 0 := Or.inl ⟨by decide, rfl⟩
      have hFc := zm_free hD hS hA
      refine va_calli (va_runV (As := [.int r4, .int ((7 + r6) - 1), .int a2]) (rest := []) ⟨hx, hb, hml, hown, hts⟩ (zd_X9_isWaySure l D cI cZ cP cF q S r4 ((7 + r6) - 1) a2 H.size _ h) (cwV 3 hts zg_zd_X9_wantsTemplate_zd_X9_isWaySure_143 rfl rfl rfl (by decide +kernel) ⟨Nat.le_of_ble_eq_true rfl, Nat.le_of_ble_eq_true rfl⟩) ⟨zCW, va_recv hK hP (ci := 9) (q0 := p_38) rfl hp_38, fun U hU hW => ⟨rfl, by rw [hU], by rw [hU]; exact hP, hE.warm hW, hD.weaken (fun _ _ _ _ => trivial)⟩⟩ rfl rfl hl.1 rfl (lv_room (Nat.le_of_ble_eq_true rfl)) dX9_wantsTemplate_204 ⟨Nat.le_of_ble_eq_true rfl, Nat.le_of_ble_eq_true rfl⟩) hS (fun q _ h => hFc q h) hFc (fun r39 S39 t H locs ht hvm h hB hz1 hk1 hS => ?_)
      obtain ⟨hP, hD1, hN1⟩ := hB
      rw [ht] at hP
      have hD := hD1.weaken (fun k q _ hq => hFc q.1 hq)
      have hN := hN1.trans hN
      refine lv_if_ne (tgt := 214) hx hb dX9_wantsTemplate_207 (by decide) (fun c_40 => ?_) (fun c_40 => ?_)
      · have h := h.1 c_40
        refine lv_iconst (v := 0) hx hb dX9_wantsTemplate_214 (by decide) ?_
        exact W.zret (v := 0) (ty := .boolean) hx hb hr (by decide) (fun t ht hW => ⟨⟨_, S39, rfl, h, by rw [ht]; exact hP, hD, hN⟩, hS.F ht⟩) hS.2.2 dX9_wantsTemplate_215
      · have h := h.2 c_40
        refine lv_iconst (v := 1) hx hb dX9_wantsTemplate_210 (by decide) ?_
        refine lv_goto (tgt := 215) hx hb dX9_wantsTemplate_211 (by decide) ?_
        exact W.zret (v := 1) (ty := .boolean) hx hb hr (by decide) (fun t ht hW => ⟨⟨_, S39, rfl, h, by rw [ht]; exact hP, hD, hN⟩, hS.F ht⟩) hS.2.2 dX9_wantsTemplate_215
    · have h := h.2.2.2.2.2.2.2.2.2.2.2.2.1 h_in
      refine lv_tableIn (off := 192) (tgt := 216) hx hb dX9_wantsTemplate_24 (by rw [h_in]; decide) (by rw [h_in]; decide) (by rw [h_in]; decide) (by decide) ?_
      refine lv_aload_n hx hb dX9_wantsTemplate_216 rfl (lv_at hl 3 rfl) ?_
      refine lv_bipush (v := 7) hx hb dX9_wantsTemplate_217 (by decide) ?_
      refine lv_bipush (v := 14) hx hb dX9_wantsTemplate_219 (by decide) ?_
      refine lv_iload_n hx hb dX9_wantsTemplate_221 rfl (lv_at hl 5 rfl) ?_
      obtain ⟨p_41, hp_41⟩ := cget_15 cI cZ cP cF q S
      have hi_41 : cin S 15 0 := Or.inl ⟨by decide, rfl⟩
      have hFc := zm_free hD hS hA
      refine va_callv (va_runV (As := [.int 7, .int 14, .int a2]) (rest := []) ⟨hx, hb, hml, hown, hts⟩ (zd_X9_lay l D cI cZ cP cF q S 7 14 a2 H.size _ h) (cwV 3 hts zg_zd_X9_wantsTemplate_zd_X9_lay_66 rfl rfl rfl (by decide +kernel) ⟨Nat.le_of_ble_eq_true rfl, Nat.le_of_ble_eq_true rfl⟩) ⟨zCW, va_recv hK hP (ci := 9) (q0 := p_41) rfl hp_41, fun U hU hW => ⟨rfl, by rw [hU], by rw [hU]; exact hP, hE.warm hW, hD.weaken (fun _ _ _ _ => trivial)⟩⟩ rfl rfl hl.1 rfl (lv_room (Nat.le_of_ble_eq_true rfl)) dX9_wantsTemplate_222 ⟨Nat.le_of_ble_eq_true rfl, Nat.le_of_ble_eq_true rfl⟩) hS (fun q _ h => hFc q h) hFc (fun S42 t H locs ht hvm h hB hz1 hk1 hS => ?_)
      obtain ⟨hP, hD1, hN1⟩ := hB
      rw [ht] at hP
      have hD := hD1.weaken (fun k q _ hq => hFc q.1 hq)
      have hN := hN1.trans hN
      refine lv_iconst (v := 1) hx hb dX9_wantsTemplate_225 (by decide) ?_
      exact W.zret (v := 1) (ty := .boolean) hx hb hr (by decide) (fun t ht hW => ⟨⟨_, S42, rfl, h, by rw [ht]; exact hP, hD, hN⟩, hS.F ht⟩) hS.2.2 dX9_wantsTemplate_226
    · have h := h.2.2.2.2.2.2.2.2.2.2.2.2.2.1 h_in
      refine lv_tableIn (off := 224) (tgt := 248) hx hb dX9_wantsTemplate_24 (by rw [h_in]; decide) (by rw [h_in]; decide) (by rw [h_in]; decide) (by decide) ?_
      refine lv_aload_n hx hb dX9_wantsTemplate_248 rfl (lv_at hl 3 rfl) ?_
      refine lv_iload hx hb dX9_wantsTemplate_249 (lv_at hl 0 rfl) ?_
      refine lv_iconst (v := 1) hx hb dX9_wantsTemplate_251 (by decide) ?_
      refine lv_isub hx hb dX9_wantsTemplate_252 ?_
      refine lv_iload hx hb dX9_wantsTemplate_253 (lv_at hl 0 rfl) ?_
      refine lv_iconst (v := 1) hx hb dX9_wantsTemplate_255 (by decide) ?_
      refine lv_isub hx hb dX9_wantsTemplate_256 ?_
      refine lv_iload_n hx hb dX9_wantsTemplate_257 rfl (lv_at hl 5 rfl) ?_
      obtain ⟨p_43, hp_43⟩ := cget_15 cI cZ cP cF q S
      have hi_43 : cin S 15 0 := Or.inl ⟨by decide, rfl⟩
      have hFc := zm_free hD hS hA
      refine va_callv (va_runV (As := [.int ((7 + r6) - 1), .int ((7 + r6) - 1), .int a2]) (rest := []) ⟨hx, hb, hml, hown, hts⟩ (zd_X9_lay l D cI cZ cP cF q S ((7 + r6) - 1) ((7 + r6) - 1) a2 H.size _ h) (cwV 3 hts zg_zd_X9_wantsTemplate_zd_X9_lay_66 rfl rfl rfl (by decide +kernel) ⟨Nat.le_of_ble_eq_true rfl, Nat.le_of_ble_eq_true rfl⟩) ⟨zCW, va_recv hK hP (ci := 9) (q0 := p_43) rfl hp_43, fun U hU hW => ⟨rfl, by rw [hU], by rw [hU]; exact hP, hE.warm hW, hD.weaken (fun _ _ _ _ => trivial)⟩⟩ rfl rfl hl.1 rfl (lv_room (Nat.le_of_ble_eq_true rfl)) dX9_wantsTemplate_258 ⟨Nat.le_of_ble_eq_true rfl, Nat.le_of_ble_eq_true rfl⟩) hS (fun q _ h => hFc q h) hFc (fun S44 t H locs ht hvm h hB hz1 hk1 hS => ?_)
      obtain ⟨hP, hD1, hN1⟩ := hB
      rw [ht] at hP
      have hD := hD1.weaken (fun k q _ hq => hFc q.1 hq)
      have hN := hN1.trans hN
      refine lv_iconst (v := 1) hx hb dX9_wantsTemplate_261 (by decide) ?_
      exact W.zret (v := 1) (ty := .boolean) hx hb hr (by decide) (fun t ht hW => ⟨⟨_, S44, rfl, h, by rw [ht]; exact hP, hD, hN⟩, hS.F ht⟩) hS.2.2 dX9_wantsTemplate_262
    · have h := h.2.2.2.2.2.2.2.2.2.2.2.2.2.2.1 h_in
      refine lv_tableIn (off := 203) (tgt := 227) hx hb dX9_wantsTemplate_24 (by rw [h_in]; decide) (by rw [h_in]; decide) (by rw [h_in]; decide) (by decide) ?_
      refine lv_aload_n hx hb dX9_wantsTemplate_227 rfl (lv_at hl 3 rfl) ?_
      refine lv_aload_n hx hb dX9_wantsTemplate_228 rfl (lv_at hl 4 rfl) ?_
      have hi_45 := h.1
      have h := h.2
      obtain ⟨p_45, hp_45⟩ := cget_24 cI cZ cP cF q S hi_45
      refine va_get (D := D) (ci := 8) (v := .ref (q 28 i1)) (C := RX8) (T := TX8) (N := 10) hx hb hts (fun _ h => List.mem_cons_of_mem _ (List.mem_append_left _ (List.mem_append_left _ (List.mem_append_left _ (List.mem_append_right _ h))))) hown hK hP p_45 hp_45 rfl 3 (by decide) (hts (.fieldLink RX9 41 "TemplateForge$Program" "heat" "LTemplateForge$Heat;") (List.mem_of_getElem? (i := 76) rfl)) (fun _ h9 => h9) rfl dX9_wantsTemplate_229 ?_
      refine lv_iload hx hb dX9_wantsTemplate_232 (lv_at hl 1 rfl) ?_
      refine lv_iload hx hb dX9_wantsTemplate_234 (lv_at hl 0 rfl) ?_
      obtain ⟨p_46, hp_46⟩ := cget_15 cI cZ cP cF q S
      have hi_46 : cin S 15 0 := Or.inl ⟨by decide, rfl⟩
      have hFc := zm_free hD hS hA
      refine va_calli (va_runV (As := [.ref (q 28 i1), .int r4, .int (7 + r6)]) (rest := []) ⟨hx, hb, hml, hown, hts⟩ (zd_X9_isFieldKnown l D cI cZ cP cF q S i1 r4 (7 + r6) H.size _ h) (cwV 3 hts zg_zd_X9_wantsTemplate_zd_X9_isFieldKnown_146 rfl rfl rfl (by decide +kernel) ⟨Nat.le_of_ble_eq_true rfl, Nat.le_of_ble_eq_true rfl⟩) ⟨zCW, va_recv hK hP (ci := 9) (q0 := p_46) rfl hp_46, fun U hU hW => ⟨rfl, by rw [hU], by rw [hU]; exact hP, hE.warm hW, hD.weaken (fun _ _ _ _ => trivial)⟩⟩ rfl rfl hl.1 rfl (lv_room (Nat.le_of_ble_eq_true rfl)) dX9_wantsTemplate_236 ⟨Nat.le_of_ble_eq_true rfl, Nat.le_of_ble_eq_true rfl⟩) hS (fun q _ h => hFc q h) hFc (fun r47 S47 t H locs ht hvm h hB hz1 hk1 hS => ?_)
      obtain ⟨hP, hD1, hN1⟩ := hB
      rw [ht] at hP
      have hD := hD1.weaken (fun k q _ hq => hFc q.1 hq)
      have hN := hN1.trans hN
      refine lv_if_ne (tgt := 246) hx hb dX9_wantsTemplate_239 (by decide) (fun c_48 => ?_) (fun c_48 => ?_)
      · have h := h.1 c_48
        refine lv_iconst (v := 0) hx hb dX9_wantsTemplate_246 (by decide) ?_
        exact W.zret (v := 0) (ty := .boolean) hx hb hr (by decide) (fun t ht hW => ⟨⟨_, S47, rfl, h, by rw [ht]; exact hP, hD, hN⟩, hS.F ht⟩) hS.2.2 dX9_wantsTemplate_247
      · have h := h.2 c_48
        refine lv_iconst (v := 1) hx hb dX9_wantsTemplate_242 (by decide) ?_
        refine lv_goto (tgt := 247) hx hb dX9_wantsTemplate_243 (by decide) ?_
        exact W.zret (v := 1) (ty := .boolean) hx hb hr (by decide) (fun t ht hW => ⟨⟨_, S47, rfl, h, by rw [ht]; exact hP, hD, hN⟩, hS.F ht⟩) hS.2.2 dX9_wantsTemplate_247
    · have h := h.2.2.2.2.2.2.2.2.2.2.2.2.2.2.2.1 h_in
      refine lv_tableIn (off := 224) (tgt := 248) hx hb dX9_wantsTemplate_24 (by rw [h_in]; decide) (by rw [h_in]; decide) (by rw [h_in]; decide) (by decide) ?_
      refine lv_aload_n hx hb dX9_wantsTemplate_248 rfl (lv_at hl 3 rfl) ?_
      refine lv_iload hx hb dX9_wantsTemplate_249 (lv_at hl 0 rfl) ?_
      refine lv_iconst (v := 1) hx hb dX9_wantsTemplate_251 (by decide) ?_
      refine lv_isub hx hb dX9_wantsTemplate_252 ?_
      refine lv_iload hx hb dX9_wantsTemplate_253 (lv_at hl 0 rfl) ?_
      refine lv_iconst (v := 1) hx hb dX9_wantsTemplate_255 (by decide) ?_
      refine lv_isub hx hb dX9_wantsTemplate_256 ?_
      refine lv_iload_n hx hb dX9_wantsTemplate_257 rfl (lv_at hl 5 rfl) ?_
      obtain ⟨p_49, hp_49⟩ := cget_15 cI cZ cP cF q S
      have hi_49 : cin S 15 0 := Or.inl ⟨by decide, rfl⟩
      have hFc := zm_free hD hS hA
      refine va_callv (va_runV (As := [.int ((7 + r6) - 1), .int ((7 + r6) - 1), .int a2]) (rest := []) ⟨hx, hb, hml, hown, hts⟩ (zd_X9_lay l D cI cZ cP cF q S ((7 + r6) - 1) ((7 + r6) - 1) a2 H.size _ h) (cwV 3 hts zg_zd_X9_wantsTemplate_zd_X9_lay_66 rfl rfl rfl (by decide +kernel) ⟨Nat.le_of_ble_eq_true rfl, Nat.le_of_ble_eq_true rfl⟩) ⟨zCW, va_recv hK hP (ci := 9) (q0 := p_49) rfl hp_49, fun U hU hW => ⟨rfl, by rw [hU], by rw [hU]; exact hP, hE.warm hW, hD.weaken (fun _ _ _ _ => trivial)⟩⟩ rfl rfl hl.1 rfl (lv_room (Nat.le_of_ble_eq_true rfl)) dX9_wantsTemplate_258 ⟨Nat.le_of_ble_eq_true rfl, Nat.le_of_ble_eq_true rfl⟩) hS (fun q _ h => hFc q h) hFc (fun S50 t H locs ht hvm h hB hz1 hk1 hS => ?_)
      obtain ⟨hP, hD1, hN1⟩ := hB
      rw [ht] at hP
      have hD := hD1.weaken (fun k q _ hq => hFc q.1 hq)
      have hN := hN1.trans hN
      refine lv_iconst (v := 1) hx hb dX9_wantsTemplate_261 (by decide) ?_
      exact W.zret (v := 1) (ty := .boolean) hx hb hr (by decide) (fun t ht hW => ⟨⟨_, S50, rfl, h, by rw [ht]; exact hP, hD, hN⟩, hS.F ht⟩) hS.2.2 dX9_wantsTemplate_262
    · have h := h.2.2.2.2.2.2.2.2.2.2.2.2.2.2.2.2.1 h_in
      refine lv_tableIn (off := 224) (tgt := 248) hx hb dX9_wantsTemplate_24 (by rw [h_in]; decide) (by rw [h_in]; decide) (by rw [h_in]; decide) (by decide) ?_
      refine lv_aload_n hx hb dX9_wantsTemplate_248 rfl (lv_at hl 3 rfl) ?_
      refine lv_iload hx hb dX9_wantsTemplate_249 (lv_at hl 0 rfl) ?_
      refine lv_iconst (v := 1) hx hb dX9_wantsTemplate_251 (by decide) ?_
      refine lv_isub hx hb dX9_wantsTemplate_252 ?_
      refine lv_iload hx hb dX9_wantsTemplate_253 (lv_at hl 0 rfl) ?_
      refine lv_iconst (v := 1) hx hb dX9_wantsTemplate_255 (by decide) ?_
      refine lv_isub hx hb dX9_wantsTemplate_256 ?_
      refine lv_iload_n hx hb dX9_wantsTemplate_257 rfl (lv_at hl 5 rfl) ?_
      obtain ⟨p_51, hp_51⟩ := cget_15 cI cZ cP cF q S
      have hi_51 : cin S 15 0 := Or.inl ⟨by decide, rfl⟩
      have hFc := zm_free hD hS hA
      refine va_callv (va_runV (As := [.int ((7 + r6) - 1), .int ((7 + r6) - 1), .int a2]) (rest := []) ⟨hx, hb, hml, hown, hts⟩ (zd_X9_lay l D cI cZ cP cF q S ((7 + r6) - 1) ((7 + r6) - 1) a2 H.size _ h) (cwV 3 hts zg_zd_X9_wantsTemplate_zd_X9_lay_66 rfl rfl rfl (by decide +kernel) ⟨Nat.le_of_ble_eq_true rfl, Nat.le_of_ble_eq_true rfl⟩) ⟨zCW, va_recv hK hP (ci := 9) (q0 := p_51) rfl hp_51, fun U hU hW => ⟨rfl, by rw [hU], by rw [hU]; exact hP, hE.warm hW, hD.weaken (fun _ _ _ _ => trivial)⟩⟩ rfl rfl hl.1 rfl (lv_room (Nat.le_of_ble_eq_true rfl)) dX9_wantsTemplate_258 ⟨Nat.le_of_ble_eq_true rfl, Nat.le_of_ble_eq_true rfl⟩) hS (fun q _ h => hFc q h) hFc (fun S52 t H locs ht hvm h hB hz1 hk1 hS => ?_)
      obtain ⟨hP, hD1, hN1⟩ := hB
      rw [ht] at hP
      have hD := hD1.weaken (fun k q _ hq => hFc q.1 hq)
      have hN := hN1.trans hN
      refine lv_iconst (v := 1) hx hb dX9_wantsTemplate_261 (by decide) ?_
      exact W.zret (v := 1) (ty := .boolean) hx hb hr (by decide) (fun t ht hW => ⟨⟨_, S52, rfl, h, by rw [ht]; exact hP, hD, hN⟩, hS.F ht⟩) hS.2.2 dX9_wantsTemplate_262
    · have h := h.2.2.2.2.2.2.2.2.2.2.2.2.2.2.2.2.2.1 h_in
      refine lv_tableIn (off := 224) (tgt := 248) hx hb dX9_wantsTemplate_24 (by rw [h_in]; decide) (by rw [h_in]; decide) (by rw [h_in]; decide) (by decide) ?_
      refine lv_aload_n hx hb dX9_wantsTemplate_248 rfl (lv_at hl 3 rfl) ?_
      refine lv_iload hx hb dX9_wantsTemplate_249 (lv_at hl 0 rfl) ?_
      refine lv_iconst (v := 1) hx hb dX9_wantsTemplate_251 (by decide) ?_
      refine lv_isub hx hb dX9_wantsTemplate_252 ?_
      refine lv_iload hx hb dX9_wantsTemplate_253 (lv_at hl 0 rfl) ?_
      refine lv_iconst (v := 1) hx hb dX9_wantsTemplate_255 (by decide) ?_
      refine lv_isub hx hb dX9_wantsTemplate_256 ?_
      refine lv_iload_n hx hb dX9_wantsTemplate_257 rfl (lv_at hl 5 rfl) ?_
      obtain ⟨p_53, hp_53⟩ := cget_15 cI cZ cP cF q S
      have hi_53 : cin S 15 0 := Or.inl ⟨by decide, rfl⟩
      have hFc := zm_free hD hS hA
      refine va_callv (va_runV (As := [.int ((7 + r6) - 1), .int ((7 + r6) - 1), .int a2]) (rest := []) ⟨hx, hb, hml, hown, hts⟩ (zd_X9_lay l D cI cZ cP cF q S ((7 + r6) - 1) ((7 + r6) - 1) a2 H.size _ h) (cwV 3 hts zg_zd_X9_wantsTemplate_zd_X9_lay_66 rfl rfl rfl (by decide +kernel) ⟨Nat.le_of_ble_eq_true rfl, Nat.le_of_ble_eq_true rfl⟩) ⟨zCW, va_recv hK hP (ci := 9) (q0 := p_53) rfl hp_53, fun U hU hW => ⟨rfl, by rw [hU], by rw [hU]; exact hP, hE.warm hW, hD.weaken (fun _ _ _ _ => trivial)⟩⟩ rfl rfl hl.1 rfl (lv_room (Nat.le_of_ble_eq_true rfl)) dX9_wantsTemplate_258 ⟨Nat.le_of_ble_eq_true rfl, Nat.le_of_ble_eq_true rfl⟩) hS (fun q _ h => hFc q h) hFc (fun S54 t H locs ht hvm h hB hz1 hk1 hS => ?_)
      obtain ⟨hP, hD1, hN1⟩ := hB
      rw [ht] at hP
      have hD := hD1.weaken (fun k q _ hq => hFc q.1 hq)
      have hN := hN1.trans hN
      refine lv_iconst (v := 1) hx hb dX9_wantsTemplate_261 (by decide) ?_
      exact W.zret (v := 1) (ty := .boolean) hx hb hr (by decide) (fun t ht hW => ⟨⟨_, S54, rfl, h, by rw [ht]; exact hP, hD, hN⟩, hS.F ht⟩) hS.2.2 dX9_wantsTemplate_262
    · have h := h.2.2.2.2.2.2.2.2.2.2.2.2.2.2.2.2.2.2.1 h_in
      refine lv_tableIn (off := 239) (tgt := 263) hx hb dX9_wantsTemplate_24 (by rw [h_in]; decide) (by rw [h_in]; decide) (by rw [h_in]; decide) (by decide) ?_
      refine lv_aload_n hx hb dX9_wantsTemplate_263 rfl (lv_at hl 3 rfl) ?_
      refine lv_iload hx hb dX9_wantsTemplate_264 (lv_at hl 0 rfl) ?_
      refine lv_iconst (v := 2) hx hb dX9_wantsTemplate_266 (by decide) ?_
      refine lv_isub hx hb dX9_wantsTemplate_267 ?_
      refine lv_iload hx hb dX9_wantsTemplate_268 (lv_at hl 0 rfl) ?_
      refine lv_iconst (v := 1) hx hb dX9_wantsTemplate_270 (by decide) ?_
      refine lv_isub hx hb dX9_wantsTemplate_271 ?_
      refine lv_iload_n hx hb dX9_wantsTemplate_272 rfl (lv_at hl 5 rfl) ?_
      obtain ⟨p_55, hp_55⟩ := cget_15 cI cZ cP cF q S
      have hi_55 : cin S 15 0 := Or.inl ⟨by decide, rfl⟩
      have hFc := zm_free hD hS hA
      refine va_callv (va_runV (As := [.int ((7 + r6) - 2), .int ((7 + r6) - 1), .int a2]) (rest := []) ⟨hx, hb, hml, hown, hts⟩ (zd_X9_lay l D cI cZ cP cF q S ((7 + r6) - 2) ((7 + r6) - 1) a2 H.size _ h) (cwV 3 hts zg_zd_X9_wantsTemplate_zd_X9_lay_66 rfl rfl rfl (by decide +kernel) ⟨Nat.le_of_ble_eq_true rfl, Nat.le_of_ble_eq_true rfl⟩) ⟨zCW, va_recv hK hP (ci := 9) (q0 := p_55) rfl hp_55, fun U hU hW => ⟨rfl, by rw [hU], by rw [hU]; exact hP, hE.warm hW, hD.weaken (fun _ _ _ _ => trivial)⟩⟩ rfl rfl hl.1 rfl (lv_room (Nat.le_of_ble_eq_true rfl)) dX9_wantsTemplate_273 ⟨Nat.le_of_ble_eq_true rfl, Nat.le_of_ble_eq_true rfl⟩) hS (fun q _ h => hFc q h) hFc (fun S56 t H locs ht hvm h hB hz1 hk1 hS => ?_)
      obtain ⟨hP, hD1, hN1⟩ := hB
      rw [ht] at hP
      have hD := hD1.weaken (fun k q _ hq => hFc q.1 hq)
      have hN := hN1.trans hN
      refine lv_iconst (v := 1) hx hb dX9_wantsTemplate_276 (by decide) ?_
      exact W.zret (v := 1) (ty := .boolean) hx hb hr (by decide) (fun t ht hW => ⟨⟨_, S56, rfl, h, by rw [ht]; exact hP, hD, hN⟩, hS.F ht⟩) hS.2.2 dX9_wantsTemplate_277
    · have h := h.2.2.2.2.2.2.2.2.2.2.2.2.2.2.2.2.2.2.2.1 h_in
      refine lv_tableIn (off := 123) (tgt := 147) hx hb dX9_wantsTemplate_24 (by rw [h_in]; decide) (by rw [h_in]; decide) (by rw [h_in]; decide) (by decide) ?_
      refine lv_aload_n hx hb dX9_wantsTemplate_147 rfl (lv_at hl 3 rfl) ?_
      refine lv_iload hx hb dX9_wantsTemplate_148 (lv_at hl 0 rfl) ?_
      refine lv_iconst (v := 1) hx hb dX9_wantsTemplate_150 (by decide) ?_
      refine lv_isub hx hb dX9_wantsTemplate_151 ?_
      refine lv_iload hx hb dX9_wantsTemplate_152 (lv_at hl 0 rfl) ?_
      obtain ⟨p_57, hp_57⟩ := cget_15 cI cZ cP cF q S
      have hi_57 : cin S 15 0 := Or.inl ⟨by decide, rfl⟩
      have hFc := zm_free hD hS hA
      refine va_calli (va_runV (As := [.int ((7 + r6) - 1), .int (7 + r6)]) (rest := []) ⟨hx, hb, hml, hown, hts⟩ (zd_X9_isCopyKnown l D cI cZ cP cF q S ((7 + r6) - 1) (7 + r6) H.size _ h) (cwV 2 hts zg_zd_X9_wantsTemplate_zd_X9_isCopyKnown_132 rfl rfl rfl (by decide +kernel) ⟨Nat.le_of_ble_eq_true rfl, Nat.le_of_ble_eq_true rfl⟩) ⟨zCW, va_recv hK hP (ci := 9) (q0 := p_57) rfl hp_57, fun U hU hW => ⟨rfl, by rw [hU], by rw [hU]; exact hP, hE.warm hW, hD.weaken (fun _ _ _ _ => trivial)⟩⟩ rfl rfl hl.1 rfl (lv_room (Nat.le_of_ble_eq_true rfl)) dX9_wantsTemplate_154 ⟨Nat.le_of_ble_eq_true rfl, Nat.le_of_ble_eq_true rfl⟩) hS (fun q _ h => hFc q h) hFc (fun r58 S58 t H locs ht hvm h hB hz1 hk1 hS => ?_)
      obtain ⟨hP, hD1, hN1⟩ := hB
      rw [ht] at hP
      have hD := hD1.weaken (fun k q _ hq => hFc q.1 hq)
      have hN := hN1.trans hN
      refine lv_if_ne (tgt := 164) hx hb dX9_wantsTemplate_157 (by decide) (fun c_59 => ?_) (fun c_59 => ?_)
      · have h := h.1 c_59
        refine lv_iconst (v := 0) hx hb dX9_wantsTemplate_164 (by decide) ?_
        exact W.zret (v := 0) (ty := .boolean) hx hb hr (by decide) (fun t ht hW => ⟨⟨_, S58, rfl, h, by rw [ht]; exact hP, hD, hN⟩, hS.F ht⟩) hS.2.2 dX9_wantsTemplate_165
      · have h := h.2 c_59
        refine lv_iconst (v := 1) hx hb dX9_wantsTemplate_160 (by decide) ?_
        refine lv_goto (tgt := 165) hx hb dX9_wantsTemplate_161 (by decide) ?_
        exact W.zret (v := 1) (ty := .boolean) hx hb hr (by decide) (fun t ht hW => ⟨⟨_, S58, rfl, h, by rw [ht]; exact hP, hD, hN⟩, hS.F ht⟩) hS.2.2 dX9_wantsTemplate_165
    · have h := h.2.2.2.2.2.2.2.2.2.2.2.2.2.2.2.2.2.2.2.2 h_in
      refine lv_tableIn (off := 162) (tgt := 186) hx hb dX9_wantsTemplate_24 (by rw [h_in]; decide) (by rw [h_in]; decide) (by rw [h_in]; decide) (by decide) ?_
      refine lv_aload_n hx hb dX9_wantsTemplate_186 rfl (lv_at hl 3 rfl) ?_
      refine lv_iload hx hb dX9_wantsTemplate_187 (lv_at hl 0 rfl) ?_
      refine lv_iconst (v := 1) hx hb dX9_wantsTemplate_189 (by decide) ?_
      refine lv_isub hx hb dX9_wantsTemplate_190 ?_
      obtain ⟨p_60, hp_60⟩ := cget_15 cI cZ cP cF q S
      have hi_60 : cin S 15 0 := Or.inl ⟨by decide, rfl⟩
      have hFc := zm_free hD hS hA
      refine va_callv (va_runV (As := [.int ((7 + r6) - 1)]) (rest := []) ⟨hx, hb, hml, hown, hts⟩ (zd_X9_forget l D cI cZ cP cF q S ((7 + r6) - 1) H.size _ h) (cwV 1 hts zg_zd_X9_wantsTemplate_zd_X9_forget_140 rfl rfl rfl (by decide +kernel) ⟨Nat.le_of_ble_eq_true rfl, Nat.le_of_ble_eq_true rfl⟩) ⟨zCW, va_recv hK hP (ci := 9) (q0 := p_60) rfl hp_60, fun U hU hW => ⟨rfl, by rw [hU], by rw [hU]; exact hP, hE.warm hW, hD.weaken (fun _ _ _ _ => trivial)⟩⟩ rfl rfl hl.1 rfl (lv_room (Nat.le_of_ble_eq_true rfl)) dX9_wantsTemplate_191 ⟨Nat.le_of_ble_eq_true rfl, Nat.le_of_ble_eq_true rfl⟩) hS (fun q _ h => hFc q h) hFc (fun S61 t H locs ht hvm h hB hz1 hk1 hS => ?_)
      obtain ⟨hP, hD1, hN1⟩ := hB
      rw [ht] at hP
      have hD := hD1.weaken (fun k q _ hq => hFc q.1 hq)
      have hN := hN1.trans hN
      refine lv_iconst (v := 0) hx hb dX9_wantsTemplate_194 (by decide) ?_
      exact W.zret (v := 0) (ty := .boolean) hx hb hr (by decide) (fun t ht hW => ⟨⟨_, S61, rfl, h, by rw [ht]; exact hP, hD, hN⟩, hS.F ht⟩) hS.2.2 dX9_wantsTemplate_195
  exact key _ _ hP va_S.rf
