theorem zgw_X0 : wsX00.all goodWord = true := by decide +kernel
theorem zgw_X1 : wsX10.all goodWord = true := by decide +kernel
theorem zgw_X2 : wsX20.all goodWord = true := by decide +kernel
theorem zgw_X3 : wsX30.all goodWord = true := by decide +kernel
theorem zgw_X4 : wsX40.all goodWord = true := by decide +kernel
theorem zgw_X5 : wsX50.all goodWord = true := by decide +kernel
theorem zgw_X6 : wsX60.all goodWord = true := by decide +kernel
theorem zgw_X7 : wsX70.all goodWord = true := by decide +kernel
theorem zgw_X8 : wsX80.all goodWord = true := by decide +kernel
theorem zgw_X9 : wsX90.all goodWord = true := by decide +kernel
theorem zgw_X10 : wsX100.all goodWord = true := by decide +kernel
theorem zgw_X11 : wsX110.all goodWord = true := by decide +kernel
theorem zt_2_6 (x : Int32) : (x.toInt < 2 ∨ 6 < x.toInt) ∨ x = 2 ∨ x = 3 ∨ x = 4 ∨ x = 5 ∨ x = 6 := by
  by_cases h : x.toInt < 2 ∨ 6 < x.toInt
  · exact Or.inl h
  · right
    have e : ∀ c : Int32, x.toInt = c.toInt → x = c := fun c hc => Int32.toInt.inj hc
    rcases (show x.toInt = 2 ∨ x.toInt = 3 ∨ x.toInt = 4 ∨ x.toInt = 5 ∨ x.toInt = 6 by omega) with h | h | h | h | h
    · exact (Or.inl (e 2 (by rw [h]; decide)))
    · exact (Or.inr (Or.inl (e 3 (by rw [h]; decide))))
    · exact (Or.inr (Or.inr (Or.inl (e 4 (by rw [h]; decide)))))
    · exact (Or.inr (Or.inr (Or.inr (Or.inl (e 5 (by rw [h]; decide))))))
    · exact (Or.inr (Or.inr (Or.inr (Or.inr (e 6 (by rw [h]; decide))))))
def wp_X4_valueOf (S : CST) (i : Nat) (a1 : Int32) (Post : Int32 → Prop) : Prop :=
  (((a1 : Int32) < 0) → (Post 0)) ∧ ((¬ ((a1 : Int32) < 0)) → (((15 ≤ a1) → (Post 0)) ∧ ((¬ (15 ≤ a1)) → (cin S 22 i ∧ (cin S 23 i ∧ vp_in a1 15 ∧ (Post (cv S 230 i (a1 : Int32).toNatClampNeg)))))))
def zw_zd_X4_valueOf_w0 : List Cond := [.fieldLink RX4 9 "TemplateForge$Frame" "registers" "[I"]
def zw_zd_X4_valueOf : List Cond := .code yX4_valueOf cX4_valueOf 2 (some .int) :: ((zw_zd_X4_valueOf_w0) ++ wsX40)
set_option maxHeartbeats 16000000 in
set_option maxRecDepth 100000 in
theorem zd_X4_valueOf (l : Launch) (D : va_G) (cI cZ cP cF : Nat) (q : Nat → Nat → Nat) (S : CST) (i : Nat) (a1 : Int32) (Post : Int32 → Prop) (h : wp_X4_valueOf S i a1 Post) : Met l yX4_valueOf zw_zd_X4_valueOf ({ frames := 0, cells := 0, slots := 0, locals := 0 }) (va_Pc [.ref (q 22 i), .int a1] (fun U => va_P D vwCl (cW cI cZ cP cF q S) U.heap ∧ zF D cI cZ cP cF U)) (vp_Si Post) 0 0 (fun _ => False) := by
  unfold wp_X4_valueOf at h
  refine Met.ofW (cc := cX4_valueOf) (maxL := 2) (ret := (some .int)) (by decide) rfl ?_
  intro p e s m args below meth c s₁ B hml hv
  obtain ⟨rfl, hP, hE⟩ := hv
  have hx := B.exec
  have hb := B.bytes
  have hr := B.returns
  have hts := atoms_spec (ws := zw_zd_X4_valueOf) B.pre
  have hown : s.vm.findClass RX4 = some m.cls := findClass_of_methodNamed B.named
  have hlocks := B.notSynchronized
  have hK := hE.k
  have hl := lv_entry ([.ref (q 22 i), .int a1]) (n := 2) (Nat.le_of_ble_eq_true rfl)
  rw [lg_entry_eq]
  generalize (lg_sl ([.ref (q 22 i), .int a1]) ++ List.replicate (2 - (lg_sl ([.ref (q 22 i), .int a1])).length) Slot.unset).toArray = ls at hl ⊢
  have hl : lv_has ls 2 [(0, .ref (q 22 i)), (1, .int a1)] := hl
  refine lv_iload_n hx hb dX4_valueOf_0 rfl (lv_at hl 1 rfl) ?_
  refine lv_if_lt (tgt := 19) hx hb dX4_valueOf_1 (by decide) (fun c_1 => ?_) (fun c_1 => ?_)
  · have h := h.1 c_1
    refine lv_iconst (v := 0) hx hb dX4_valueOf_19 (by decide) ?_
    exact W.iret (v := 0) hx hb hr (fun t ht hW => ⟨_, rfl, h, ht⟩) (fun q h => by cases h) dX4_valueOf_20
  · have h := h.2 c_1
    refine lv_iload_n hx hb dX4_valueOf_4 rfl (lv_at hl 1 rfl) ?_
    refine lv_bipush (v := 15) hx hb dX4_valueOf_5 (by decide) ?_
    refine lv_icmp_ge (tgt := 19) hx hb dX4_valueOf_7 (by decide) (fun c_2 => ?_) (fun c_2 => ?_)
    · have h := h.1 c_2
      refine lv_iconst (v := 0) hx hb dX4_valueOf_19 (by decide) ?_
      exact W.iret (v := 0) hx hb hr (fun t ht hW => ⟨_, rfl, h, ht⟩) (fun q h => by cases h) dX4_valueOf_20
    · have h := h.2 c_2
      refine lv_aload_n hx hb dX4_valueOf_10 rfl (lv_at hl 0 rfl) ?_
      have hi_3 := h.1
      have h := h.2
      obtain ⟨p_3, hp_3⟩ := cget_22 cI cZ cP cF q S hi_3
      refine va_get (D := D) (ci := 4) (v := .ref (q 23 i)) (C := RX4) (T := TX4) (N := 5) hx hb hts (fun _ h => List.mem_cons_of_mem _ (List.mem_append_right _ h)) hown hK hP p_3 hp_3 rfl 4 (by decide) (hts (.fieldLink RX4 9 "TemplateForge$Frame" "registers" "[I") (List.mem_of_getElem? (i := 1) rfl)) (fun _ h9 => h9) rfl dX4_valueOf_11 ?_
      refine lv_iload_n hx hb dX4_valueOf_14 rfl (lv_at hl 1 rfl) ?_
      have hi_4 := h.1
      have h := h.2
      obtain ⟨p_4, hp_4⟩ := cget_23 cI cZ cP cF q S hi_4
      have hin_4 := h.1
      have h := h.2
      refine va_iald hx hb hK hP p_4 0 hp_4 rfl hin_4 dX4_valueOf_15 ?_
      refine lv_goto (tgt := 20) hx hb dX4_valueOf_16 (by decide) ?_
      exact W.iret (v := cv S 230 i (a1 : Int32).toNatClampNeg) hx hb hr (fun t ht hW => ⟨_, rfl, h, ht⟩) (fun q h => by cases h) dX4_valueOf_20

def wp_X4_put (S : CST) (i : Nat) (a1 : Int32) (a2 : Int32) (Post : CST → Prop) : Prop :=
  (((a1 : Int32) < 0) → (Post S)) ∧ ((¬ ((a1 : Int32) < 0)) → (((15 ≤ a1) → (Post S)) ∧ ((¬ (15 ≤ a1)) → (cin S 22 i ∧ (cin S 23 i ∧ vp_in a1 15 ∧ (∀ S5 : CST, S5 = cs S 230 i (upd (cv S 230 i) (a1 : Int32).toNatClampNeg a2) → (Post S5)))))))
def zw_zd_X4_put_w0 : List Cond := [.fieldLink RX4 9 "TemplateForge$Frame" "registers" "[I"]
def zw_zd_X4_put : List Cond := .code yX4_put cX4_put 3 none :: ((zw_zd_X4_put_w0) ++ wsX40)
set_option maxHeartbeats 16000000 in
set_option maxRecDepth 100000 in
theorem zd_X4_put (l : Launch) (D : va_G) (cI cZ cP cF : Nat) (q : Nat → Nat → Nat) (S : CST) (i : Nat) (a1 : Int32) (a2 : Int32) (sz : Nat) (Post : CST → Prop) (h : wp_X4_put S i a1 a2 Post) : Met l yX4_put zw_zd_X4_put ({ frames := 0, cells := 0, slots := 0, locals := 0 }) (va_Pc [.ref (q 22 i), .int a1, .int a2] (fun U => U.heap.size = sz ∧ va_P D vwCl (cW cI cZ cP cF q S) U.heap ∧ zF D cI cZ cP cF U ∧ va_D (fun _ => True) (cW cI cZ cP cF q S))) (va_Qv (fun S' => Post S') (fun (S' : CST) t => va_P D vwCl (cW cI cZ cP cF q S') t.heap ∧ va_D (va_A (cW cI cZ cP cF q S) sz) (cW cI cZ cP cF q S') ∧ S'.2 = S.2) (va_A (cW cI cZ cP cF q S) sz)) 0 0 (va_A (cW cI cZ cP cF q S) sz) := by
  unfold wp_X4_put at h
  refine Met.ofW (cc := cX4_put) (maxL := 3) (ret := none) (by decide) rfl ?_
  intro p e s m args below meth c s₁ B hml hv
  obtain ⟨rfl, hsz, hP, hE, hD0⟩ := hv
  have hx := B.exec
  have hb := B.bytes
  have hr := B.returns
  have hts := atoms_spec (ws := zw_zd_X4_put) B.pre
  have hown : s.vm.findClass RX4 = some m.cls := findClass_of_methodNamed B.named
  have hlocks := B.notSynchronized
  have hK := hE.k
  subst hsz
  have hD := hD0.self (sz := s.heap.size)
  generalize hAe : va_A (cW cI cZ cP cF q S) s.heap.size = A at hD ⊢
  have hA : ∀ q : Nat, s.heap.size ≤ q → A q := fun q h => by rw [← hAe]; exact Or.inr h
  have hN : S.2 = S.2 := rfl
  have hl := lv_entry ([.ref (q 22 i), .int a1, .int a2]) (n := 3) (Nat.le_of_ble_eq_true rfl)
  rw [lg_entry_eq]
  generalize (lg_sl ([.ref (q 22 i), .int a1, .int a2]) ++ List.replicate (3 - (lg_sl ([.ref (q 22 i), .int a1, .int a2])).length) Slot.unset).toArray = ls at hl ⊢
  have hl : lv_has ls 3 [(0, .ref (q 22 i)), (1, .int a1), (2, .int a2)] := hl
  have key : ∀ (H : Heap) (locs : List Loc), va_P D vwCl (cW cI cZ cP cF q S) H → va_S A s.heap H locs → W p l e (headSpec zw_zd_X4_put ({ frames := 0, cells := 0, slots := 0, locals := 0 })).room s m ([.ref (q 22 i), .int a1, .int a2] : List Value).toArray below meth c H locs 0 0 (MQ below (va_Qv (fun S' => Post S') (fun (S' : CST) t => va_P D vwCl (cW cI cZ cP cF q S') t.heap ∧ va_D A (cW cI cZ cP cF q S') ∧ S'.2 = S.2) A) ([.ref (q 22 i), .int a1, .int a2] : List Value).toArray s 0 0 A) (F0 m 0 ls []) := by
    intro H locs hP hS
    refine lv_iload_n hx hb dX4_put_0 rfl (lv_at hl 1 rfl) ?_
    refine lv_if_lt (tgt := 17) hx hb dX4_put_1 (by decide) (fun c_1 => ?_) (fun c_1 => ?_)
    · have h := h.1 c_1
      exact W.vret hx hb hr (fun t ht hW => ⟨⟨S, rfl, h, by rw [ht]; exact hP, hD, hN⟩, hS.F ht⟩) hS.2.2 dX4_put_17
    · have h := h.2 c_1
      refine lv_iload_n hx hb dX4_put_4 rfl (lv_at hl 1 rfl) ?_
      refine lv_bipush (v := 15) hx hb dX4_put_5 (by decide) ?_
      refine lv_icmp_ge (tgt := 17) hx hb dX4_put_7 (by decide) (fun c_2 => ?_) (fun c_2 => ?_)
      · have h := h.1 c_2
        exact W.vret hx hb hr (fun t ht hW => ⟨⟨S, rfl, h, by rw [ht]; exact hP, hD, hN⟩, hS.F ht⟩) hS.2.2 dX4_put_17
      · have h := h.2 c_2
        refine lv_aload_n hx hb dX4_put_10 rfl (lv_at hl 0 rfl) ?_
        have hi_3 := h.1
        have h := h.2
        obtain ⟨p_3, hp_3⟩ := cget_22 cI cZ cP cF q S hi_3
        refine va_get (D := D) (ci := 4) (v := .ref (q 23 i)) (C := RX4) (T := TX4) (N := 5) hx hb hts (fun _ h => List.mem_cons_of_mem _ (List.mem_append_right _ h)) hown hK hP p_3 hp_3 rfl 4 (by decide) (hts (.fieldLink RX4 9 "TemplateForge$Frame" "registers" "[I") (List.mem_of_getElem? (i := 1) rfl)) (fun _ h9 => h9) rfl dX4_put_11 ?_
        refine lv_iload_n hx hb dX4_put_14 rfl (lv_at hl 1 rfl) ?_
        refine lv_iload_n hx hb dX4_put_15 rfl (lv_at hl 2 rfl) ?_
        have hi_4 := h.1
        have h := h.2
        obtain ⟨p_4, hp_4⟩ := cget_23 cI cZ cP cF q S hi_4
        have hin_4 := h.1
        have h := h.2
        have hD0_4 := hD
        refine va_iast hx hb hK hP hD hS p_4 0 hp_4 rfl hin_4 dX4_put_16 (fun H locs hP hD hS => ?_)
        obtain ⟨S5, eS5⟩ : ∃ z, z = cs S 230 i (upd (cv S 230 i) (a1 : Int32).toNatClampNeg a2) := ⟨_, rfl⟩
        have hP : va_P D vwCl (cW cI cZ cP cF q S5) H := by rw [eS5, ← cW_put (k := 230) (κ := 23) (i := i) (g := (upd (cv S 230 i) (a1 : Int32).toNatClampNeg a2)) rfl hD0_4 hp_4 hi_4, cput_230]; exact hP
        have hD : va_D A (cW cI cZ cP cF q S5) := by rw [eS5, ← cW_put (k := 230) (κ := 23) (i := i) (g := (upd (cv S 230 i) (a1 : Int32).toNatClampNeg a2)) rfl hD0_4 hp_4 hi_4, cput_230]; exact hD
        have hN : S5.2 = S.2 := by rw [eS5]; exact hN
        have h := h S5 eS5
        exact W.vret hx hb hr (fun t ht hW => ⟨⟨S5, rfl, h, by rw [ht]; exact hP, hD, hN⟩, hS.F ht⟩) hS.2.2 dX4_put_17
  exact key _ _ hP va_S.rf

def wp_X2_valueOf (S : CST) (a1 : Int32) (Post : Int32 → Prop) : Prop :=
  (((a1 : Int32) < 0) → (Post 0)) ∧ ((¬ ((a1 : Int32) < 0)) → (((8 ≤ a1) → (Post 0)) ∧ ((¬ (8 ≤ a1)) → (vp_in a1 8 ∧ (Post (cv S 40 0 (a1 : Int32).toNatClampNeg))))))
def zw_zd_X2_valueOf_w0 : List Cond := [.fieldLink RX2 9 "TemplateForge$Data" "fields" "[I"]
def zw_zd_X2_valueOf : List Cond := .code yX2_valueOf cX2_valueOf 2 (some .int) :: ((zw_zd_X2_valueOf_w0) ++ wsX20)
set_option maxHeartbeats 16000000 in
set_option maxRecDepth 100000 in
theorem zd_X2_valueOf (l : Launch) (D : va_G) (cI cZ cP cF : Nat) (q : Nat → Nat → Nat) (S : CST) (a1 : Int32) (Post : Int32 → Prop) (h : wp_X2_valueOf S a1 Post) : Met l yX2_valueOf zw_zd_X2_valueOf ({ frames := 0, cells := 0, slots := 0, locals := 0 }) (va_Pc [.ref (q 3 0), .int a1] (fun U => va_P D vwCl (cW cI cZ cP cF q S) U.heap ∧ zF D cI cZ cP cF U)) (vp_Si Post) 0 0 (fun _ => False) := by
  unfold wp_X2_valueOf at h
  refine Met.ofW (cc := cX2_valueOf) (maxL := 2) (ret := (some .int)) (by decide) rfl ?_
  intro p e s m args below meth c s₁ B hml hv
  obtain ⟨rfl, hP, hE⟩ := hv
  have hx := B.exec
  have hb := B.bytes
  have hr := B.returns
  have hts := atoms_spec (ws := zw_zd_X2_valueOf) B.pre
  have hown : s.vm.findClass RX2 = some m.cls := findClass_of_methodNamed B.named
  have hlocks := B.notSynchronized
  have hK := hE.k
  have hl := lv_entry ([.ref (q 3 0), .int a1]) (n := 2) (Nat.le_of_ble_eq_true rfl)
  rw [lg_entry_eq]
  generalize (lg_sl ([.ref (q 3 0), .int a1]) ++ List.replicate (2 - (lg_sl ([.ref (q 3 0), .int a1])).length) Slot.unset).toArray = ls at hl ⊢
  have hl : lv_has ls 2 [(0, .ref (q 3 0)), (1, .int a1)] := hl
  refine lv_iload_n hx hb dX2_valueOf_0 rfl (lv_at hl 1 rfl) ?_
  refine lv_if_lt (tgt := 19) hx hb dX2_valueOf_1 (by decide) (fun c_1 => ?_) (fun c_1 => ?_)
  · have h := h.1 c_1
    refine lv_iconst (v := 0) hx hb dX2_valueOf_19 (by decide) ?_
    exact W.iret (v := 0) hx hb hr (fun t ht hW => ⟨_, rfl, h, ht⟩) (fun q h => by cases h) dX2_valueOf_20
  · have h := h.2 c_1
    refine lv_iload_n hx hb dX2_valueOf_4 rfl (lv_at hl 1 rfl) ?_
    refine lv_bipush (v := 8) hx hb dX2_valueOf_5 (by decide) ?_
    refine lv_icmp_ge (tgt := 19) hx hb dX2_valueOf_7 (by decide) (fun c_2 => ?_) (fun c_2 => ?_)
    · have h := h.1 c_2
      refine lv_iconst (v := 0) hx hb dX2_valueOf_19 (by decide) ?_
      exact W.iret (v := 0) hx hb hr (fun t ht hW => ⟨_, rfl, h, ht⟩) (fun q h => by cases h) dX2_valueOf_20
    · have h := h.2 c_2
      refine lv_aload_n hx hb dX2_valueOf_10 rfl (lv_at hl 0 rfl) ?_
      obtain ⟨p_3, hp_3⟩ := cget_3 cI cZ cP cF q S
      have hi_3 : cin S 3 0 := Or.inl ⟨by decide, rfl⟩
      refine va_get (D := D) (ci := 2) (v := .ref (q 4 0)) (C := RX2) (T := TX2) (N := 3) hx hb hts (fun _ h => List.mem_cons_of_mem _ (List.mem_append_right _ h)) hown hK hP p_3 hp_3 rfl 0 (by decide) (hts (.fieldLink RX2 9 "TemplateForge$Data" "fields" "[I") (List.mem_of_getElem? (i := 1) rfl)) (fun _ h9 => h9) rfl dX2_valueOf_11 ?_
      refine lv_iload_n hx hb dX2_valueOf_14 rfl (lv_at hl 1 rfl) ?_
      obtain ⟨p_4, hp_4⟩ := cget_4 cI cZ cP cF q S
      have hi_4 : cin S 4 0 := Or.inl ⟨by decide, rfl⟩
      have hin_4 := h.1
      have h := h.2
      refine va_iald hx hb hK hP p_4 0 hp_4 rfl hin_4 dX2_valueOf_15 ?_
      refine lv_goto (tgt := 20) hx hb dX2_valueOf_16 (by decide) ?_
      exact W.iret (v := cv S 40 0 (a1 : Int32).toNatClampNeg) hx hb hr (fun t ht hW => ⟨_, rfl, h, ht⟩) (fun q h => by cases h) dX2_valueOf_20

def wp_X2_lengthOf (S : CST) (a1 : Int32) (Post : Int32 → Prop) : Prop :=
  (((a1 : Int32) < 0) → (Post (-1))) ∧ ((¬ ((a1 : Int32) < 0)) → (((4 ≤ a1) → (Post (-1))) ∧ ((¬ (4 ≤ a1)) → (vp_in a1 4 ∧ (Post (cv S 50 0 (a1 : Int32).toNatClampNeg))))))
def zw_zd_X2_lengthOf_w0 : List Cond := [.fieldLink RX2 15 "TemplateForge$Data" "lengths" "[I"]
def zw_zd_X2_lengthOf : List Cond := .code yX2_lengthOf cX2_lengthOf 2 (some .int) :: ((zw_zd_X2_lengthOf_w0) ++ wsX20)
set_option maxHeartbeats 16000000 in
set_option maxRecDepth 100000 in
theorem zd_X2_lengthOf (l : Launch) (D : va_G) (cI cZ cP cF : Nat) (q : Nat → Nat → Nat) (S : CST) (a1 : Int32) (Post : Int32 → Prop) (h : wp_X2_lengthOf S a1 Post) : Met l yX2_lengthOf zw_zd_X2_lengthOf ({ frames := 0, cells := 0, slots := 0, locals := 0 }) (va_Pc [.ref (q 3 0), .int a1] (fun U => va_P D vwCl (cW cI cZ cP cF q S) U.heap ∧ zF D cI cZ cP cF U)) (vp_Si Post) 0 0 (fun _ => False) := by
  unfold wp_X2_lengthOf at h
  refine Met.ofW (cc := cX2_lengthOf) (maxL := 2) (ret := (some .int)) (by decide) rfl ?_
  intro p e s m args below meth c s₁ B hml hv
  obtain ⟨rfl, hP, hE⟩ := hv
  have hx := B.exec
  have hb := B.bytes
  have hr := B.returns
  have hts := atoms_spec (ws := zw_zd_X2_lengthOf) B.pre
  have hown : s.vm.findClass RX2 = some m.cls := findClass_of_methodNamed B.named
  have hlocks := B.notSynchronized
  have hK := hE.k
  have hl := lv_entry ([.ref (q 3 0), .int a1]) (n := 2) (Nat.le_of_ble_eq_true rfl)
  rw [lg_entry_eq]
  generalize (lg_sl ([.ref (q 3 0), .int a1]) ++ List.replicate (2 - (lg_sl ([.ref (q 3 0), .int a1])).length) Slot.unset).toArray = ls at hl ⊢
  have hl : lv_has ls 2 [(0, .ref (q 3 0)), (1, .int a1)] := hl
  refine lv_iload_n hx hb dX2_lengthOf_0 rfl (lv_at hl 1 rfl) ?_
  refine lv_if_lt (tgt := 18) hx hb dX2_lengthOf_1 (by decide) (fun c_1 => ?_) (fun c_1 => ?_)
  · have h := h.1 c_1
    refine lv_iconst (v := (-1)) hx hb dX2_lengthOf_18 (by decide) ?_
    exact W.iret (v := (-1)) hx hb hr (fun t ht hW => ⟨_, rfl, h, ht⟩) (fun q h => by cases h) dX2_lengthOf_19
  · have h := h.2 c_1
    refine lv_iload_n hx hb dX2_lengthOf_4 rfl (lv_at hl 1 rfl) ?_
    refine lv_iconst (v := 4) hx hb dX2_lengthOf_5 (by decide) ?_
    refine lv_icmp_ge (tgt := 18) hx hb dX2_lengthOf_6 (by decide) (fun c_2 => ?_) (fun c_2 => ?_)
    · have h := h.1 c_2
      refine lv_iconst (v := (-1)) hx hb dX2_lengthOf_18 (by decide) ?_
      exact W.iret (v := (-1)) hx hb hr (fun t ht hW => ⟨_, rfl, h, ht⟩) (fun q h => by cases h) dX2_lengthOf_19
    · have h := h.2 c_2
      refine lv_aload_n hx hb dX2_lengthOf_9 rfl (lv_at hl 0 rfl) ?_
      obtain ⟨p_3, hp_3⟩ := cget_3 cI cZ cP cF q S
      have hi_3 : cin S 3 0 := Or.inl ⟨by decide, rfl⟩
      refine va_get (D := D) (ci := 2) (v := .ref (q 5 0)) (C := RX2) (T := TX2) (N := 3) hx hb hts (fun _ h => List.mem_cons_of_mem _ (List.mem_append_right _ h)) hown hK hP p_3 hp_3 rfl 1 (by decide) (hts (.fieldLink RX2 15 "TemplateForge$Data" "lengths" "[I") (List.mem_of_getElem? (i := 1) rfl)) (fun _ h9 => h9) rfl dX2_lengthOf_10 ?_
      refine lv_iload_n hx hb dX2_lengthOf_13 rfl (lv_at hl 1 rfl) ?_
      obtain ⟨p_4, hp_4⟩ := cget_5 cI cZ cP cF q S
      have hi_4 : cin S 5 0 := Or.inl ⟨by decide, rfl⟩
      have hin_4 := h.1
      have h := h.2
      refine va_iald hx hb hK hP p_4 0 hp_4 rfl hin_4 dX2_lengthOf_14 ?_
      refine lv_goto (tgt := 19) hx hb dX2_lengthOf_15 (by decide) ?_
      exact W.iret (v := cv S 50 0 (a1 : Int32).toNatClampNeg) hx hb hr (fun t ht hW => ⟨_, rfl, h, ht⟩) (fun q h => by cases h) dX2_lengthOf_19

def wp_X10_ofTrap (S : CST) (a1 : Int32) (Post : Int32 → Prop) : Prop :=
  (((a1 : Int32) < 0) → (Post (-2))) ∧ ((¬ ((a1 : Int32) < 0)) → (((4 ≤ a1) → (Post (-2))) ∧ ((¬ (4 ≤ a1)) → (vp_in a1 4 ∧ (Post (cv S 210 0 (a1 : Int32).toNatClampNeg))))))
def zw_zd_X10_ofTrap_w0 : List Cond := [.fieldLink RX10 9 "TemplateForge$Tally" "trap" "[I"]
def zw_zd_X10_ofTrap : List Cond := .code yX10_ofTrap cX10_ofTrap 2 (some .int) :: ((zw_zd_X10_ofTrap_w0) ++ wsX100)
set_option maxHeartbeats 16000000 in
set_option maxRecDepth 100000 in
theorem zd_X10_ofTrap (l : Launch) (D : va_G) (cI cZ cP cF : Nat) (q : Nat → Nat → Nat) (S : CST) (a1 : Int32) (Post : Int32 → Prop) (h : wp_X10_ofTrap S a1 Post) : Met l yX10_ofTrap zw_zd_X10_ofTrap ({ frames := 0, cells := 0, slots := 0, locals := 0 }) (va_Pc [.ref (q 20 0), .int a1] (fun U => va_P D vwCl (cW cI cZ cP cF q S) U.heap ∧ zF D cI cZ cP cF U)) (vp_Si Post) 0 0 (fun _ => False) := by
  unfold wp_X10_ofTrap at h
  refine Met.ofW (cc := cX10_ofTrap) (maxL := 2) (ret := (some .int)) (by decide) rfl ?_
  intro p e s m args below meth c s₁ B hml hv
  obtain ⟨rfl, hP, hE⟩ := hv
  have hx := B.exec
  have hb := B.bytes
  have hr := B.returns
  have hts := atoms_spec (ws := zw_zd_X10_ofTrap) B.pre
  have hown : s.vm.findClass RX10 = some m.cls := findClass_of_methodNamed B.named
  have hlocks := B.notSynchronized
  have hK := hE.k
  have hl := lv_entry ([.ref (q 20 0), .int a1]) (n := 2) (Nat.le_of_ble_eq_true rfl)
  rw [lg_entry_eq]
  generalize (lg_sl ([.ref (q 20 0), .int a1]) ++ List.replicate (2 - (lg_sl ([.ref (q 20 0), .int a1])).length) Slot.unset).toArray = ls at hl ⊢
  have hl : lv_has ls 2 [(0, .ref (q 20 0)), (1, .int a1)] := hl
  refine lv_iload_n hx hb dX10_ofTrap_0 rfl (lv_at hl 1 rfl) ?_
  refine lv_if_lt (tgt := 18) hx hb dX10_ofTrap_1 (by decide) (fun c_1 => ?_) (fun c_1 => ?_)
  · have h := h.1 c_1
    refine lv_bipush (v := (-2)) hx hb dX10_ofTrap_18 (by decide) ?_
    exact W.iret (v := (-2)) hx hb hr (fun t ht hW => ⟨_, rfl, h, ht⟩) (fun q h => by cases h) dX10_ofTrap_20
  · have h := h.2 c_1
    refine lv_iload_n hx hb dX10_ofTrap_4 rfl (lv_at hl 1 rfl) ?_
    refine lv_iconst (v := 4) hx hb dX10_ofTrap_5 (by decide) ?_
    refine lv_icmp_ge (tgt := 18) hx hb dX10_ofTrap_6 (by decide) (fun c_2 => ?_) (fun c_2 => ?_)
    · have h := h.1 c_2
      refine lv_bipush (v := (-2)) hx hb dX10_ofTrap_18 (by decide) ?_
      exact W.iret (v := (-2)) hx hb hr (fun t ht hW => ⟨_, rfl, h, ht⟩) (fun q h => by cases h) dX10_ofTrap_20
    · have h := h.2 c_2
      refine lv_aload_n hx hb dX10_ofTrap_9 rfl (lv_at hl 0 rfl) ?_
      obtain ⟨p_3, hp_3⟩ := cget_20 cI cZ cP cF q S
      have hi_3 : cin S 20 0 := Or.inl ⟨by decide, rfl⟩
      refine va_get (D := D) (ci := 10) (v := .ref (q 21 0)) (C := RX10) (T := TX10) (N := 7) hx hb hts (fun _ h => List.mem_cons_of_mem _ (List.mem_append_right _ h)) hown hK hP p_3 hp_3 rfl 6 (by decide) (hts (.fieldLink RX10 9 "TemplateForge$Tally" "trap" "[I") (List.mem_of_getElem? (i := 1) rfl)) (fun _ h9 => h9) rfl dX10_ofTrap_10 ?_
      refine lv_iload_n hx hb dX10_ofTrap_13 rfl (lv_at hl 1 rfl) ?_
      obtain ⟨p_4, hp_4⟩ := cget_21 cI cZ cP cF q S
      have hi_4 : cin S 21 0 := Or.inl ⟨by decide, rfl⟩
      have hin_4 := h.1
      have h := h.2
      refine va_iald hx hb hK hP p_4 0 hp_4 rfl hin_4 dX10_ofTrap_14 ?_
      refine lv_goto (tgt := 20) hx hb dX10_ofTrap_15 (by decide) ?_
      exact W.iret (v := cv S 210 0 (a1 : Int32).toNatClampNeg) hx hb hr (fun t ht hW => ⟨_, rfl, h, ht⟩) (fun q h => by cases h) dX10_ofTrap_20

def wp_X8_has (S : CST) (i : Nat) (a1 : Int32) (Post : Int32 → Prop) : Prop :=
  (((a1 : Int32) < 0) → (Post 0)) ∧ ((¬ ((a1 : Int32) < 0)) → (cin S 24 i ∧ ((((cv S 247 i 0) ≤ a1) → (Post 0)) ∧ ((¬ ((cv S 247 i 0) ≤ a1)) → (((60 ≤ a1) → (Post 0)) ∧ ((¬ (60 ≤ a1)) → (Post 1)))))))
def zw_zd_X8_has_w0 : List Cond := [.fieldLink RX8 41 "TemplateForge$Program" "length" "I"]
def zw_zd_X8_has : List Cond := .code yX8_has cX8_has 2 (some .boolean) :: ((zw_zd_X8_has_w0) ++ wsX80)
set_option maxHeartbeats 16000000 in
set_option maxRecDepth 100000 in
theorem zd_X8_has (l : Launch) (D : va_G) (cI cZ cP cF : Nat) (q : Nat → Nat → Nat) (S : CST) (i : Nat) (a1 : Int32) (Post : Int32 → Prop) (h : wp_X8_has S i a1 Post) : Met l yX8_has zw_zd_X8_has ({ frames := 0, cells := 0, slots := 0, locals := 0 }) (va_Pc [.ref (q 24 i), .int a1] (fun U => va_P D vwCl (cW cI cZ cP cF q S) U.heap ∧ zF D cI cZ cP cF U)) (vp_Si Post) 0 0 (fun _ => False) := by
  unfold wp_X8_has at h
  refine Met.ofW (cc := cX8_has) (maxL := 2) (ret := (some .boolean)) (by decide) rfl ?_
  intro p e s m args below meth c s₁ B hml hv
  obtain ⟨rfl, hP, hE⟩ := hv
  have hx := B.exec
  have hb := B.bytes
  have hr := B.returns
  have hts := atoms_spec (ws := zw_zd_X8_has) B.pre
  have hown : s.vm.findClass RX8 = some m.cls := findClass_of_methodNamed B.named
  have hlocks := B.notSynchronized
  have hK := hE.k
  have hl := lv_entry ([.ref (q 24 i), .int a1]) (n := 2) (Nat.le_of_ble_eq_true rfl)
  rw [lg_entry_eq]
  generalize (lg_sl ([.ref (q 24 i), .int a1]) ++ List.replicate (2 - (lg_sl ([.ref (q 24 i), .int a1])).length) Slot.unset).toArray = ls at hl ⊢
  have hl : lv_has ls 2 [(0, .ref (q 24 i)), (1, .int a1)] := hl
  refine lv_iload_n hx hb dX8_has_0 rfl (lv_at hl 1 rfl) ?_
  refine lv_if_lt (tgt := 22) hx hb dX8_has_1 (by decide) (fun c_1 => ?_) (fun c_1 => ?_)
  · have h := h.1 c_1
    refine lv_iconst (v := 0) hx hb dX8_has_22 (by decide) ?_
    exact W.zret (v := 0) (ty := .boolean) hx hb hr (by decide) (fun t ht hW => ⟨_, rfl, h, ht⟩) (fun q h => by cases h) dX8_has_23
  · have h := h.2 c_1
    refine lv_iload_n hx hb dX8_has_4 rfl (lv_at hl 1 rfl) ?_
    refine lv_aload_n hx hb dX8_has_5 rfl (lv_at hl 0 rfl) ?_
    have hi_2 := h.1
    have h := h.2
    obtain ⟨p_2, hp_2⟩ := cget_24 cI cZ cP cF q S hi_2
    refine va_get (D := D) (ci := 8) (v := .int (cv S 247 i 0)) (C := RX8) (T := TX8) (N := 10) hx hb hts (fun _ h => List.mem_cons_of_mem _ (List.mem_append_right _ h)) hown hK hP p_2 hp_2 rfl 7 (by decide) (hts (.fieldLink RX8 41 "TemplateForge$Program" "length" "I") (List.mem_of_getElem? (i := 1) rfl)) (fun _ h9 => h9) rfl dX8_has_6 ?_
    refine lv_icmp_ge (tgt := 22) hx hb dX8_has_9 (by decide) (fun c_3 => ?_) (fun c_3 => ?_)
    · have h := h.1 c_3
      refine lv_iconst (v := 0) hx hb dX8_has_22 (by decide) ?_
      exact W.zret (v := 0) (ty := .boolean) hx hb hr (by decide) (fun t ht hW => ⟨_, rfl, h, ht⟩) (fun q h => by cases h) dX8_has_23
    · have h := h.2 c_3
      refine lv_iload_n hx hb dX8_has_12 rfl (lv_at hl 1 rfl) ?_
      refine lv_bipush (v := 60) hx hb dX8_has_13 (by decide) ?_
      refine lv_icmp_ge (tgt := 22) hx hb dX8_has_15 (by decide) (fun c_4 => ?_) (fun c_4 => ?_)
      · have h := h.1 c_4
        refine lv_iconst (v := 0) hx hb dX8_has_22 (by decide) ?_
        exact W.zret (v := 0) (ty := .boolean) hx hb hr (by decide) (fun t ht hW => ⟨_, rfl, h, ht⟩) (fun q h => by cases h) dX8_has_23
      · have h := h.2 c_4
        refine lv_iconst (v := 1) hx hb dX8_has_18 (by decide) ?_
        refine lv_goto (tgt := 23) hx hb dX8_has_19 (by decide) ?_
        exact W.zret (v := 1) (ty := .boolean) hx hb hr (by decide) (fun t ht hW => ⟨_, rfl, h, ht⟩) (fun q h => by cases h) dX8_has_23

def wp_X3_parts (S : CST) (Post : Int32 → Prop) : Prop :=
  Post (cv S 72 0 0)
def zw_zd_X3_parts_w0 : List Cond := [.fieldLink RX3 18 "TemplateForge$Draft" "parts" "I"]
def zw_zd_X3_parts : List Cond := .code yX3_parts cX3_parts 1 (some .int) :: ((zw_zd_X3_parts_w0) ++ wsX30)
set_option maxHeartbeats 16000000 in
set_option maxRecDepth 100000 in
theorem zd_X3_parts (l : Launch) (D : va_G) (cI cZ cP cF : Nat) (q : Nat → Nat → Nat) (S : CST) (Post : Int32 → Prop) (h : wp_X3_parts S Post) : Met l yX3_parts zw_zd_X3_parts ({ frames := 0, cells := 0, slots := 0, locals := 0 }) (va_Pc [.ref (q 7 0)] (fun U => va_P D vwCl (cW cI cZ cP cF q S) U.heap ∧ zF D cI cZ cP cF U)) (vp_Si Post) 0 0 (fun _ => False) := by
  unfold wp_X3_parts at h
  refine Met.ofW (cc := cX3_parts) (maxL := 1) (ret := (some .int)) (by decide) rfl ?_
  intro p e s m args below meth c s₁ B hml hv
  obtain ⟨rfl, hP, hE⟩ := hv
  have hx := B.exec
  have hb := B.bytes
  have hr := B.returns
  have hts := atoms_spec (ws := zw_zd_X3_parts) B.pre
  have hown : s.vm.findClass RX3 = some m.cls := findClass_of_methodNamed B.named
  have hlocks := B.notSynchronized
  have hK := hE.k
  have hl := lv_entry ([.ref (q 7 0)]) (n := 1) (Nat.le_of_ble_eq_true rfl)
  rw [lg_entry_eq]
  generalize (lg_sl ([.ref (q 7 0)]) ++ List.replicate (1 - (lg_sl ([.ref (q 7 0)])).length) Slot.unset).toArray = ls at hl ⊢
  have hl : lv_has ls 1 [(0, .ref (q 7 0))] := hl
  refine lv_aload_n hx hb dX3_parts_0 rfl (lv_at hl 0 rfl) ?_
  obtain ⟨p_1, hp_1⟩ := cget_7 cI cZ cP cF q S
  have hi_1 : cin S 7 0 := Or.inl ⟨by decide, rfl⟩
  refine va_get (D := D) (ci := 3) (v := .int (cv S 72 0 0)) (C := RX3) (T := TX3) (N := 3) hx hb hts (fun _ h => List.mem_cons_of_mem _ (List.mem_append_right _ h)) hown hK hP p_1 hp_1 rfl 2 (by decide) (hts (.fieldLink RX3 18 "TemplateForge$Draft" "parts" "I") (List.mem_of_getElem? (i := 1) rfl)) (fun _ h9 => h9) rfl dX3_parts_1 ?_
  exact W.iret (v := cv S 72 0 0) hx hb hr (fun t ht hW => ⟨_, rfl, h, ht⟩) (fun q h => by cases h) dX3_parts_4

def wp_X5_valueOf (S : CST) (i : Nat) (a1 : Int32) (Post : Int32 → Prop) : Prop :=
  (((a1 : Int32) < 0) → (Post 0)) ∧ ((¬ ((a1 : Int32) < 0)) → (((11 ≤ a1) → (Post 0)) ∧ ((¬ (11 ≤ a1)) → (cin S 28 i ∧ (cin S 29 i ∧ vp_in a1 11 ∧ (Post (cv S 290 i (a1 : Int32).toNatClampNeg)))))))
def zw_zd_X5_valueOf_w0 : List Cond := [.fieldLink RX5 9 "TemplateForge$Heat" "first" "[I"]
def zw_zd_X5_valueOf : List Cond := .code yX5_valueOf cX5_valueOf 2 (some .int) :: ((zw_zd_X5_valueOf_w0) ++ wsX50)
set_option maxHeartbeats 16000000 in
set_option maxRecDepth 100000 in
theorem zd_X5_valueOf (l : Launch) (D : va_G) (cI cZ cP cF : Nat) (q : Nat → Nat → Nat) (S : CST) (i : Nat) (a1 : Int32) (Post : Int32 → Prop) (h : wp_X5_valueOf S i a1 Post) : Met l yX5_valueOf zw_zd_X5_valueOf ({ frames := 0, cells := 0, slots := 0, locals := 0 }) (va_Pc [.ref (q 28 i), .int a1] (fun U => va_P D vwCl (cW cI cZ cP cF q S) U.heap ∧ zF D cI cZ cP cF U)) (vp_Si Post) 0 0 (fun _ => False) := by
  unfold wp_X5_valueOf at h
  refine Met.ofW (cc := cX5_valueOf) (maxL := 2) (ret := (some .int)) (by decide) rfl ?_
  intro p e s m args below meth c s₁ B hml hv
  obtain ⟨rfl, hP, hE⟩ := hv
  have hx := B.exec
  have hb := B.bytes
  have hr := B.returns
  have hts := atoms_spec (ws := zw_zd_X5_valueOf) B.pre
  have hown : s.vm.findClass RX5 = some m.cls := findClass_of_methodNamed B.named
  have hlocks := B.notSynchronized
  have hK := hE.k
  have hl := lv_entry ([.ref (q 28 i), .int a1]) (n := 2) (Nat.le_of_ble_eq_true rfl)
  rw [lg_entry_eq]
  generalize (lg_sl ([.ref (q 28 i), .int a1]) ++ List.replicate (2 - (lg_sl ([.ref (q 28 i), .int a1])).length) Slot.unset).toArray = ls at hl ⊢
  have hl : lv_has ls 2 [(0, .ref (q 28 i)), (1, .int a1)] := hl
  refine lv_iload_n hx hb dX5_valueOf_0 rfl (lv_at hl 1 rfl) ?_
  refine lv_if_lt (tgt := 19) hx hb dX5_valueOf_1 (by decide) (fun c_1 => ?_) (fun c_1 => ?_)
  · have h := h.1 c_1
    refine lv_iconst (v := 0) hx hb dX5_valueOf_19 (by decide) ?_
    exact W.iret (v := 0) hx hb hr (fun t ht hW => ⟨_, rfl, h, ht⟩) (fun q h => by cases h) dX5_valueOf_20
  · have h := h.2 c_1
    refine lv_iload_n hx hb dX5_valueOf_4 rfl (lv_at hl 1 rfl) ?_
    refine lv_bipush (v := 11) hx hb dX5_valueOf_5 (by decide) ?_
    refine lv_icmp_ge (tgt := 19) hx hb dX5_valueOf_7 (by decide) (fun c_2 => ?_) (fun c_2 => ?_)
    · have h := h.1 c_2
      refine lv_iconst (v := 0) hx hb dX5_valueOf_19 (by decide) ?_
      exact W.iret (v := 0) hx hb hr (fun t ht hW => ⟨_, rfl, h, ht⟩) (fun q h => by cases h) dX5_valueOf_20
    · have h := h.2 c_2
      refine lv_aload_n hx hb dX5_valueOf_10 rfl (lv_at hl 0 rfl) ?_
      have hi_3 := h.1
      have h := h.2
      obtain ⟨p_3, hp_3⟩ := cget_28 cI cZ cP cF q S hi_3
      refine va_get (D := D) (ci := 5) (v := .ref (q 29 i)) (C := RX5) (T := TX5) (N := 9) hx hb hts (fun _ h => List.mem_cons_of_mem _ (List.mem_append_right _ h)) hown hK hP p_3 hp_3 rfl 6 (by decide) (hts (.fieldLink RX5 9 "TemplateForge$Heat" "first" "[I") (List.mem_of_getElem? (i := 1) rfl)) (fun _ h9 => h9) rfl dX5_valueOf_11 ?_
      refine lv_iload_n hx hb dX5_valueOf_14 rfl (lv_at hl 1 rfl) ?_
      have hi_4 := h.1
      have h := h.2
      obtain ⟨p_4, hp_4⟩ := cget_29 cI cZ cP cF q S hi_4
      have hin_4 := h.1
      have h := h.2
      refine va_iald hx hb hK hP p_4 0 hp_4 rfl hin_4 dX5_valueOf_15 ?_
      refine lv_goto (tgt := 20) hx hb dX5_valueOf_16 (by decide) ?_
      exact W.iret (v := cv S 290 i (a1 : Int32).toNatClampNeg) hx hb hr (fun t ht hW => ⟨_, rfl, h, ht⟩) (fun q h => by cases h) dX5_valueOf_20

def wp_X9_isKnown (S : CST) (a1 : Int32) (Post : Int32 → Prop) : Prop :=
  (((a1 : Int32) < 0) → (Post 0)) ∧ ((¬ ((a1 : Int32) < 0)) → (((15 ≤ a1) → (Post 0)) ∧ ((¬ (15 ≤ a1)) → (vp_in a1 15 ∧ (((((cv S 160 0 (a1 : Int32).toNatClampNeg) : Int32) = 0) → (Post 0)) ∧ ((¬ (((cv S 160 0 (a1 : Int32).toNatClampNeg) : Int32) = 0)) → (Post 1)))))))
def zw_zd_X9_isKnown_w0 : List Cond := [.fieldLink RX9 9 "TemplateForge$Smith" "known" "[Z"]
def zw_zd_X9_isKnown : List Cond := .code yX9_isKnown cX9_isKnown 2 (some .boolean) :: ((zw_zd_X9_isKnown_w0) ++ wsX90)
set_option maxHeartbeats 16000000 in
set_option maxRecDepth 100000 in
theorem zd_X9_isKnown (l : Launch) (D : va_G) (cI cZ cP cF : Nat) (q : Nat → Nat → Nat) (S : CST) (a1 : Int32) (Post : Int32 → Prop) (h : wp_X9_isKnown S a1 Post) : Met l yX9_isKnown zw_zd_X9_isKnown ({ frames := 0, cells := 0, slots := 0, locals := 0 }) (va_Pc [.ref (q 15 0), .int a1] (fun U => va_P D vwCl (cW cI cZ cP cF q S) U.heap ∧ zF D cI cZ cP cF U)) (vp_Si Post) 0 0 (fun _ => False) := by
  unfold wp_X9_isKnown at h
  refine Met.ofW (cc := cX9_isKnown) (maxL := 2) (ret := (some .boolean)) (by decide) rfl ?_
  intro p e s m args below meth c s₁ B hml hv
  obtain ⟨rfl, hP, hE⟩ := hv
  have hx := B.exec
  have hb := B.bytes
  have hr := B.returns
  have hts := atoms_spec (ws := zw_zd_X9_isKnown) B.pre
  have hown : s.vm.findClass RX9 = some m.cls := findClass_of_methodNamed B.named
  have hlocks := B.notSynchronized
  have hK := hE.k
  have hl := lv_entry ([.ref (q 15 0), .int a1]) (n := 2) (Nat.le_of_ble_eq_true rfl)
  rw [lg_entry_eq]
  generalize (lg_sl ([.ref (q 15 0), .int a1]) ++ List.replicate (2 - (lg_sl ([.ref (q 15 0), .int a1])).length) Slot.unset).toArray = ls at hl ⊢
  have hl : lv_has ls 2 [(0, .ref (q 15 0)), (1, .int a1)] := hl
  refine lv_iload_n hx hb dX9_isKnown_0 rfl (lv_at hl 1 rfl) ?_
  refine lv_if_lt (tgt := 23) hx hb dX9_isKnown_1 (by decide) (fun c_1 => ?_) (fun c_1 => ?_)
  · have h := h.1 c_1
    refine lv_iconst (v := 0) hx hb dX9_isKnown_23 (by decide) ?_
    exact W.zret (v := 0) (ty := .boolean) hx hb hr (by decide) (fun t ht hW => ⟨_, rfl, h, ht⟩) (fun q h => by cases h) dX9_isKnown_24
  · have h := h.2 c_1
    refine lv_iload_n hx hb dX9_isKnown_4 rfl (lv_at hl 1 rfl) ?_
    refine lv_bipush (v := 15) hx hb dX9_isKnown_5 (by decide) ?_
    refine lv_icmp_ge (tgt := 23) hx hb dX9_isKnown_7 (by decide) (fun c_2 => ?_) (fun c_2 => ?_)
    · have h := h.1 c_2
      refine lv_iconst (v := 0) hx hb dX9_isKnown_23 (by decide) ?_
      exact W.zret (v := 0) (ty := .boolean) hx hb hr (by decide) (fun t ht hW => ⟨_, rfl, h, ht⟩) (fun q h => by cases h) dX9_isKnown_24
    · have h := h.2 c_2
      refine lv_aload_n hx hb dX9_isKnown_10 rfl (lv_at hl 0 rfl) ?_
      obtain ⟨p_3, hp_3⟩ := cget_15 cI cZ cP cF q S
      have hi_3 : cin S 15 0 := Or.inl ⟨by decide, rfl⟩
      refine va_get (D := D) (ci := 9) (v := .ref (q 16 0)) (C := RX9) (T := TX9) (N := 5) hx hb hts (fun _ h => List.mem_cons_of_mem _ (List.mem_append_right _ h)) hown hK hP p_3 hp_3 rfl 1 (by decide) (hts (.fieldLink RX9 9 "TemplateForge$Smith" "known" "[Z") (List.mem_of_getElem? (i := 1) rfl)) (fun _ h9 => h9) rfl dX9_isKnown_11 ?_
      refine lv_iload_n hx hb dX9_isKnown_14 rfl (lv_at hl 1 rfl) ?_
      obtain ⟨p_4, hp_4⟩ := cget_16 cI cZ cP cF q S
      have hi_4 : cin S 16 0 := Or.inl ⟨by decide, rfl⟩
      have hin_4 := h.1
      have h := h.2
      refine va_zald hx hb hK hP p_4 1 hp_4 rfl hin_4 dX9_isKnown_15 ?_
      refine lv_if_eq (tgt := 23) hx hb dX9_isKnown_16 (by decide) (fun c_5 => ?_) (fun c_5 => ?_)
      · have h := h.1 c_5
        refine lv_iconst (v := 0) hx hb dX9_isKnown_23 (by decide) ?_
        exact W.zret (v := 0) (ty := .boolean) hx hb hr (by decide) (fun t ht hW => ⟨_, rfl, h, ht⟩) (fun q h => by cases h) dX9_isKnown_24
      · have h := h.2 c_5
        refine lv_iconst (v := 1) hx hb dX9_isKnown_19 (by decide) ?_
        refine lv_goto (tgt := 24) hx hb dX9_isKnown_20 (by decide) ?_
        exact W.zret (v := 1) (ty := .boolean) hx hb hr (by decide) (fun t ht hW => ⟨_, rfl, h, ht⟩) (fun q h => by cases h) dX9_isKnown_24

def wp_X9_worthOf (S : CST) (a1 : Int32) (Post : Int32 → Prop) : Prop :=
  (((a1 : Int32) < 0) → (Post 0)) ∧ ((¬ ((a1 : Int32) < 0)) → (((15 ≤ a1) → (Post 0)) ∧ ((¬ (15 ≤ a1)) → (vp_in a1 15 ∧ (Post (cv S 170 0 (a1 : Int32).toNatClampNeg))))))
def zw_zd_X9_worthOf_w0 : List Cond := [.fieldLink RX9 15 "TemplateForge$Smith" "worth" "[I"]
def zw_zd_X9_worthOf : List Cond := .code yX9_worthOf cX9_worthOf 2 (some .int) :: ((zw_zd_X9_worthOf_w0) ++ wsX90)
set_option maxHeartbeats 16000000 in
set_option maxRecDepth 100000 in
theorem zd_X9_worthOf (l : Launch) (D : va_G) (cI cZ cP cF : Nat) (q : Nat → Nat → Nat) (S : CST) (a1 : Int32) (Post : Int32 → Prop) (h : wp_X9_worthOf S a1 Post) : Met l yX9_worthOf zw_zd_X9_worthOf ({ frames := 0, cells := 0, slots := 0, locals := 0 }) (va_Pc [.ref (q 15 0), .int a1] (fun U => va_P D vwCl (cW cI cZ cP cF q S) U.heap ∧ zF D cI cZ cP cF U)) (vp_Si Post) 0 0 (fun _ => False) := by
  unfold wp_X9_worthOf at h
  refine Met.ofW (cc := cX9_worthOf) (maxL := 2) (ret := (some .int)) (by decide) rfl ?_
  intro p e s m args below meth c s₁ B hml hv
  obtain ⟨rfl, hP, hE⟩ := hv
  have hx := B.exec
  have hb := B.bytes
  have hr := B.returns
  have hts := atoms_spec (ws := zw_zd_X9_worthOf) B.pre
  have hown : s.vm.findClass RX9 = some m.cls := findClass_of_methodNamed B.named
  have hlocks := B.notSynchronized
  have hK := hE.k
  have hl := lv_entry ([.ref (q 15 0), .int a1]) (n := 2) (Nat.le_of_ble_eq_true rfl)
  rw [lg_entry_eq]
  generalize (lg_sl ([.ref (q 15 0), .int a1]) ++ List.replicate (2 - (lg_sl ([.ref (q 15 0), .int a1])).length) Slot.unset).toArray = ls at hl ⊢
  have hl : lv_has ls 2 [(0, .ref (q 15 0)), (1, .int a1)] := hl
  refine lv_iload_n hx hb dX9_worthOf_0 rfl (lv_at hl 1 rfl) ?_
  refine lv_if_lt (tgt := 19) hx hb dX9_worthOf_1 (by decide) (fun c_1 => ?_) (fun c_1 => ?_)
  · have h := h.1 c_1
    refine lv_iconst (v := 0) hx hb dX9_worthOf_19 (by decide) ?_
    exact W.iret (v := 0) hx hb hr (fun t ht hW => ⟨_, rfl, h, ht⟩) (fun q h => by cases h) dX9_worthOf_20
  · have h := h.2 c_1
    refine lv_iload_n hx hb dX9_worthOf_4 rfl (lv_at hl 1 rfl) ?_
    refine lv_bipush (v := 15) hx hb dX9_worthOf_5 (by decide) ?_
    refine lv_icmp_ge (tgt := 19) hx hb dX9_worthOf_7 (by decide) (fun c_2 => ?_) (fun c_2 => ?_)
    · have h := h.1 c_2
      refine lv_iconst (v := 0) hx hb dX9_worthOf_19 (by decide) ?_
      exact W.iret (v := 0) hx hb hr (fun t ht hW => ⟨_, rfl, h, ht⟩) (fun q h => by cases h) dX9_worthOf_20
    · have h := h.2 c_2
      refine lv_aload_n hx hb dX9_worthOf_10 rfl (lv_at hl 0 rfl) ?_
      obtain ⟨p_3, hp_3⟩ := cget_15 cI cZ cP cF q S
      have hi_3 : cin S 15 0 := Or.inl ⟨by decide, rfl⟩
      refine va_get (D := D) (ci := 9) (v := .ref (q 17 0)) (C := RX9) (T := TX9) (N := 5) hx hb hts (fun _ h => List.mem_cons_of_mem _ (List.mem_append_right _ h)) hown hK hP p_3 hp_3 rfl 2 (by decide) (hts (.fieldLink RX9 15 "TemplateForge$Smith" "worth" "[I") (List.mem_of_getElem? (i := 1) rfl)) (fun _ h9 => h9) rfl dX9_worthOf_11 ?_
      refine lv_iload_n hx hb dX9_worthOf_14 rfl (lv_at hl 1 rfl) ?_
      obtain ⟨p_4, hp_4⟩ := cget_17 cI cZ cP cF q S
      have hi_4 : cin S 17 0 := Or.inl ⟨by decide, rfl⟩
      have hin_4 := h.1
      have h := h.2
      refine va_iald hx hb hK hP p_4 0 hp_4 rfl hin_4 dX9_worthOf_15 ?_
      refine lv_goto (tgt := 20) hx hb dX9_worthOf_16 (by decide) ?_
      exact W.iret (v := cv S 170 0 (a1 : Int32).toNatClampNeg) hx hb hr (fun t ht hW => ⟨_, rfl, h, ht⟩) (fun q h => by cases h) dX9_worthOf_20

def wp_X9_forget (S : CST) (a1 : Int32) (Post : CST → Prop) : Prop :=
  (((a1 : Int32) < 0) → (Post S)) ∧ ((¬ ((a1 : Int32) < 0)) → (((15 ≤ a1) → (Post S)) ∧ ((¬ (15 ≤ a1)) → (vp_in a1 15 ∧ (∀ S5 : CST, S5 = cs S 160 0 (upd (cv S 160 0) (a1 : Int32).toNatClampNeg (vp_nar .boolean 0)) → (Post S5))))))
def zw_zd_X9_forget_w0 : List Cond := [.fieldLink RX9 9 "TemplateForge$Smith" "known" "[Z"]
def zw_zd_X9_forget : List Cond := .code yX9_forget cX9_forget 2 none :: ((zw_zd_X9_forget_w0) ++ wsX90)
set_option maxHeartbeats 16000000 in
set_option maxRecDepth 100000 in
theorem zd_X9_forget (l : Launch) (D : va_G) (cI cZ cP cF : Nat) (q : Nat → Nat → Nat) (S : CST) (a1 : Int32) (sz : Nat) (Post : CST → Prop) (h : wp_X9_forget S a1 Post) : Met l yX9_forget zw_zd_X9_forget ({ frames := 0, cells := 0, slots := 0, locals := 0 }) (va_Pc [.ref (q 15 0), .int a1] (fun U => U.heap.size = sz ∧ va_P D vwCl (cW cI cZ cP cF q S) U.heap ∧ zF D cI cZ cP cF U ∧ va_D (fun _ => True) (cW cI cZ cP cF q S))) (va_Qv (fun S' => Post S') (fun (S' : CST) t => va_P D vwCl (cW cI cZ cP cF q S') t.heap ∧ va_D (va_A (cW cI cZ cP cF q S) sz) (cW cI cZ cP cF q S') ∧ S'.2 = S.2) (va_A (cW cI cZ cP cF q S) sz)) 0 0 (va_A (cW cI cZ cP cF q S) sz) := by
  unfold wp_X9_forget at h
  refine Met.ofW (cc := cX9_forget) (maxL := 2) (ret := none) (by decide) rfl ?_
  intro p e s m args below meth c s₁ B hml hv
  obtain ⟨rfl, hsz, hP, hE, hD0⟩ := hv
  have hx := B.exec
  have hb := B.bytes
  have hr := B.returns
  have hts := atoms_spec (ws := zw_zd_X9_forget) B.pre
  have hown : s.vm.findClass RX9 = some m.cls := findClass_of_methodNamed B.named
  have hlocks := B.notSynchronized
  have hK := hE.k
  subst hsz
  have hD := hD0.self (sz := s.heap.size)
  generalize hAe : va_A (cW cI cZ cP cF q S) s.heap.size = A at hD ⊢
  have hA : ∀ q : Nat, s.heap.size ≤ q → A q := fun q h => by rw [← hAe]; exact Or.inr h
  have hN : S.2 = S.2 := rfl
  have hl := lv_entry ([.ref (q 15 0), .int a1]) (n := 2) (Nat.le_of_ble_eq_true rfl)
  rw [lg_entry_eq]
  generalize (lg_sl ([.ref (q 15 0), .int a1]) ++ List.replicate (2 - (lg_sl ([.ref (q 15 0), .int a1])).length) Slot.unset).toArray = ls at hl ⊢
  have hl : lv_has ls 2 [(0, .ref (q 15 0)), (1, .int a1)] := hl
  have key : ∀ (H : Heap) (locs : List Loc), va_P D vwCl (cW cI cZ cP cF q S) H → va_S A s.heap H locs → W p l e (headSpec zw_zd_X9_forget ({ frames := 0, cells := 0, slots := 0, locals := 0 })).room s m ([.ref (q 15 0), .int a1] : List Value).toArray below meth c H locs 0 0 (MQ below (va_Qv (fun S' => Post S') (fun (S' : CST) t => va_P D vwCl (cW cI cZ cP cF q S') t.heap ∧ va_D A (cW cI cZ cP cF q S') ∧ S'.2 = S.2) A) ([.ref (q 15 0), .int a1] : List Value).toArray s 0 0 A) (F0 m 0 ls []) := by
    intro H locs hP hS
    refine lv_iload_n hx hb dX9_forget_0 rfl (lv_at hl 1 rfl) ?_
    refine lv_if_lt (tgt := 17) hx hb dX9_forget_1 (by decide) (fun c_1 => ?_) (fun c_1 => ?_)
    · have h := h.1 c_1
      exact W.vret hx hb hr (fun t ht hW => ⟨⟨S, rfl, h, by rw [ht]; exact hP, hD, hN⟩, hS.F ht⟩) hS.2.2 dX9_forget_17
    · have h := h.2 c_1
      refine lv_iload_n hx hb dX9_forget_4 rfl (lv_at hl 1 rfl) ?_
      refine lv_bipush (v := 15) hx hb dX9_forget_5 (by decide) ?_
      refine lv_icmp_ge (tgt := 17) hx hb dX9_forget_7 (by decide) (fun c_2 => ?_) (fun c_2 => ?_)
      · have h := h.1 c_2
        exact W.vret hx hb hr (fun t ht hW => ⟨⟨S, rfl, h, by rw [ht]; exact hP, hD, hN⟩, hS.F ht⟩) hS.2.2 dX9_forget_17
      · have h := h.2 c_2
        refine lv_aload_n hx hb dX9_forget_10 rfl (lv_at hl 0 rfl) ?_
        obtain ⟨p_3, hp_3⟩ := cget_15 cI cZ cP cF q S
        have hi_3 : cin S 15 0 := Or.inl ⟨by decide, rfl⟩
        refine va_get (D := D) (ci := 9) (v := .ref (q 16 0)) (C := RX9) (T := TX9) (N := 5) hx hb hts (fun _ h => List.mem_cons_of_mem _ (List.mem_append_right _ h)) hown hK hP p_3 hp_3 rfl 1 (by decide) (hts (.fieldLink RX9 9 "TemplateForge$Smith" "known" "[Z") (List.mem_of_getElem? (i := 1) rfl)) (fun _ h9 => h9) rfl dX9_forget_11 ?_
        refine lv_iload_n hx hb dX9_forget_14 rfl (lv_at hl 1 rfl) ?_
        refine lv_iconst (v := 0) hx hb dX9_forget_15 (by decide) ?_
        obtain ⟨p_4, hp_4⟩ := cget_16 cI cZ cP cF q S
        have hi_4 : cin S 16 0 := Or.inl ⟨by decide, rfl⟩
        have hin_4 := h.1
        have h := h.2
        have hD0_4 := hD
        refine va_zast hx hb hK hP hD hS p_4 1 hp_4 rfl hin_4 dX9_forget_16 (fun H locs hP hD hS => ?_)
        obtain ⟨S5, eS5⟩ : ∃ z, z = cs S 160 0 (upd (cv S 160 0) (a1 : Int32).toNatClampNeg (vp_nar .boolean 0)) := ⟨_, rfl⟩
        have hP : va_P D vwCl (cW cI cZ cP cF q S5) H := by rw [eS5, ← cW_put (k := 160) (κ := 16) (i := 0) (g := (upd (cv S 160 0) (a1 : Int32).toNatClampNeg (vp_nar .boolean 0))) rfl hD0_4 hp_4 hi_4, cput_160]; exact hP
        have hD : va_D A (cW cI cZ cP cF q S5) := by rw [eS5, ← cW_put (k := 160) (κ := 16) (i := 0) (g := (upd (cv S 160 0) (a1 : Int32).toNatClampNeg (vp_nar .boolean 0))) rfl hD0_4 hp_4 hi_4, cput_160]; exact hD
        have hN : S5.2 = S.2 := by rw [eS5]; exact hN
        have h := h S5 eS5
        exact W.vret hx hb hr (fun t ht hW => ⟨⟨S5, rfl, h, by rw [ht]; exact hP, hD, hN⟩, hS.F ht⟩) hS.2.2 dX9_forget_17
  exact key _ _ hP va_S.rf

def wp_X5_throwAway (S : CST) (i : Nat) (Post : CST → Prop) : Prop :=
  cin S 28 i ∧ (∀ S2 : CST, S2 = cs S 280 i (fun _ => 0) → (cin S2 28 i ∧ (∀ S4 : CST, S4 = cs S2 282 i (fun _ => 0) → (Post S4))))
def zw_zd_X5_throwAway_w0 : List Cond := [.fieldLink RX5 22 "TemplateForge$Heat" "hasCode" "Z", .fieldLink RX5 26 "TemplateForge$Heat" "counted" "I"]
def zw_zd_X5_throwAway : List Cond := .code yX5_throwAway cX5_throwAway 1 none :: ((zw_zd_X5_throwAway_w0) ++ wsX50)
set_option maxHeartbeats 16000000 in
set_option maxRecDepth 100000 in
theorem zd_X5_throwAway (l : Launch) (D : va_G) (cI cZ cP cF : Nat) (q : Nat → Nat → Nat) (S : CST) (i : Nat) (sz : Nat) (Post : CST → Prop) (h : wp_X5_throwAway S i Post) : Met l yX5_throwAway zw_zd_X5_throwAway ({ frames := 0, cells := 0, slots := 0, locals := 0 }) (va_Pc [.ref (q 28 i)] (fun U => U.heap.size = sz ∧ va_P D vwCl (cW cI cZ cP cF q S) U.heap ∧ zF D cI cZ cP cF U ∧ va_D (fun _ => True) (cW cI cZ cP cF q S))) (va_Qv (fun S' => Post S') (fun (S' : CST) t => va_P D vwCl (cW cI cZ cP cF q S') t.heap ∧ va_D (va_A (cW cI cZ cP cF q S) sz) (cW cI cZ cP cF q S') ∧ S'.2 = S.2) (va_A (cW cI cZ cP cF q S) sz)) 0 0 (va_A (cW cI cZ cP cF q S) sz) := by
  unfold wp_X5_throwAway at h
  refine Met.ofW (cc := cX5_throwAway) (maxL := 1) (ret := none) (by decide) rfl ?_
  intro p e s m args below meth c s₁ B hml hv
  obtain ⟨rfl, hsz, hP, hE, hD0⟩ := hv
  have hx := B.exec
  have hb := B.bytes
  have hr := B.returns
  have hts := atoms_spec (ws := zw_zd_X5_throwAway) B.pre
  have hown : s.vm.findClass RX5 = some m.cls := findClass_of_methodNamed B.named
  have hlocks := B.notSynchronized
  have hK := hE.k
  subst hsz
  have hD := hD0.self (sz := s.heap.size)
  generalize hAe : va_A (cW cI cZ cP cF q S) s.heap.size = A at hD ⊢
  have hA : ∀ q : Nat, s.heap.size ≤ q → A q := fun q h => by rw [← hAe]; exact Or.inr h
  have hN : S.2 = S.2 := rfl
  have hl := lv_entry ([.ref (q 28 i)]) (n := 1) (Nat.le_of_ble_eq_true rfl)
  rw [lg_entry_eq]
  generalize (lg_sl ([.ref (q 28 i)]) ++ List.replicate (1 - (lg_sl ([.ref (q 28 i)])).length) Slot.unset).toArray = ls at hl ⊢
  have hl : lv_has ls 1 [(0, .ref (q 28 i))] := hl
  have key : ∀ (H : Heap) (locs : List Loc), va_P D vwCl (cW cI cZ cP cF q S) H → va_S A s.heap H locs → W p l e (headSpec zw_zd_X5_throwAway ({ frames := 0, cells := 0, slots := 0, locals := 0 })).room s m ([.ref (q 28 i)] : List Value).toArray below meth c H locs 0 0 (MQ below (va_Qv (fun S' => Post S') (fun (S' : CST) t => va_P D vwCl (cW cI cZ cP cF q S') t.heap ∧ va_D A (cW cI cZ cP cF q S') ∧ S'.2 = S.2) A) ([.ref (q 28 i)] : List Value).toArray s 0 0 A) (F0 m 0 ls []) := by
    intro H locs hP hS
    refine lv_aload_n hx hb dX5_throwAway_0 rfl (lv_at hl 0 rfl) ?_
    refine lv_iconst (v := 0) hx hb dX5_throwAway_1 (by decide) ?_
    have hi_1 := h.1
    have h := h.2
    obtain ⟨p_1, hp_1⟩ := cget_28 cI cZ cP cF q S hi_1
    have hD0_1 := hD
    refine va_put (D := D) (ci := 5) (v := .int 0) (ty := .boolean) (C := RX5) (T := TX5) (N := 9) hx hb hts (fun _ h => List.mem_cons_of_mem _ (List.mem_append_right _ h)) tyX5 tyX5_ok nmX5 hown hK hP hD hS p_1 hp_1 rfl 0 (by decide) (hts (.fieldLink RX5 22 "TemplateForge$Heat" "hasCode" "Z") (List.mem_of_getElem? (i := 1) rfl)) (fun _ h9 => h9) rfl (by decide +kernel) rfl rfl (Nat.le_of_ble_eq_true rfl) dX5_throwAway_2 (fun H locs hP hD hS => ?_)
    obtain ⟨S2, eS2⟩ : ∃ z, z = cs S 280 i (fun _ => 0) := ⟨_, rfl⟩
    have hP : va_P D vwCl (cW cI cZ cP cF q S2) H := by rw [eS2, ← cW_put (k := 280) (κ := 28) (i := i) (g := (fun _ => 0)) rfl hD0_1 hp_1 hi_1, cput_280]; exact hP
    have hD : va_D A (cW cI cZ cP cF q S2) := by rw [eS2, ← cW_put (k := 280) (κ := 28) (i := i) (g := (fun _ => 0)) rfl hD0_1 hp_1 hi_1, cput_280]; exact hD
    have hN : S2.2 = S.2 := by rw [eS2]; exact hN
    have h := h S2 eS2
    refine lv_aload_n hx hb dX5_throwAway_5 rfl (lv_at hl 0 rfl) ?_
    refine lv_iconst (v := 0) hx hb dX5_throwAway_6 (by decide) ?_
    have hi_3 := h.1
    have h := h.2
    obtain ⟨p_3, hp_3⟩ := cget_28 cI cZ cP cF q S2 hi_3
    have hD0_3 := hD
    refine va_put (D := D) (ci := 5) (v := .int 0) (ty := .int) (C := RX5) (T := TX5) (N := 9) hx hb hts (fun _ h => List.mem_cons_of_mem _ (List.mem_append_right _ h)) tyX5 tyX5_ok nmX5 hown hK hP hD hS p_3 hp_3 rfl 2 (by decide) (hts (.fieldLink RX5 26 "TemplateForge$Heat" "counted" "I") (List.mem_of_getElem? (i := 2) rfl)) (fun _ h9 => h9) rfl (by decide +kernel) rfl rfl (Nat.le_of_ble_eq_true rfl) dX5_throwAway_7 (fun H locs hP hD hS => ?_)
    obtain ⟨S4, eS4⟩ : ∃ z, z = cs S2 282 i (fun _ => 0) := ⟨_, rfl⟩
    have hP : va_P D vwCl (cW cI cZ cP cF q S4) H := by rw [eS4, ← cW_put (k := 282) (κ := 28) (i := i) (g := (fun _ => 0)) rfl hD0_3 hp_3 hi_3, cput_282]; exact hP
    have hD : va_D A (cW cI cZ cP cF q S4) := by rw [eS4, ← cW_put (k := 282) (κ := 28) (i := i) (g := (fun _ => 0)) rfl hD0_3 hp_3 hi_3, cput_282]; exact hD
    have hN : S4.2 = S.2 := by rw [eS4]; exact hN
    have h := h S4 eS4
    exact W.vret hx hb hr (fun t ht hW => ⟨⟨S4, rfl, h, by rw [ht]; exact hP, hD, hN⟩, hS.F ht⟩) hS.2.2 dX5_throwAway_10
  exact key _ _ hP va_S.rf

def wp_X5_isHot (S : CST) (i : Nat) (Post : Int32 → Prop) : Prop :=
  cin S 28 i ∧ (((¬ (((cv S 280 i 0) : Int32) = 0)) → (Post 0)) ∧ ((((cv S 280 i 0) : Int32) = 0) → (cin S 28 i ∧ (((((cv S 282 i 0) : Int32) < 3) → (Post 0)) ∧ ((¬ (((cv S 282 i 0) : Int32) < 3)) → (Post 1))))))
def zw_zd_X5_isHot_w0 : List Cond := [.fieldLink RX5 22 "TemplateForge$Heat" "hasCode" "Z", .fieldLink RX5 26 "TemplateForge$Heat" "counted" "I"]
def zw_zd_X5_isHot : List Cond := .code yX5_isHot cX5_isHot 1 (some .boolean) :: ((zw_zd_X5_isHot_w0) ++ wsX50)
set_option maxHeartbeats 16000000 in
set_option maxRecDepth 100000 in
theorem zd_X5_isHot (l : Launch) (D : va_G) (cI cZ cP cF : Nat) (q : Nat → Nat → Nat) (S : CST) (i : Nat) (Post : Int32 → Prop) (h : wp_X5_isHot S i Post) : Met l yX5_isHot zw_zd_X5_isHot ({ frames := 0, cells := 0, slots := 0, locals := 0 }) (va_Pc [.ref (q 28 i)] (fun U => va_P D vwCl (cW cI cZ cP cF q S) U.heap ∧ zF D cI cZ cP cF U)) (vp_Si Post) 0 0 (fun _ => False) := by
  unfold wp_X5_isHot at h
  refine Met.ofW (cc := cX5_isHot) (maxL := 1) (ret := (some .boolean)) (by decide) rfl ?_
  intro p e s m args below meth c s₁ B hml hv
  obtain ⟨rfl, hP, hE⟩ := hv
  have hx := B.exec
  have hb := B.bytes
  have hr := B.returns
  have hts := atoms_spec (ws := zw_zd_X5_isHot) B.pre
  have hown : s.vm.findClass RX5 = some m.cls := findClass_of_methodNamed B.named
  have hlocks := B.notSynchronized
  have hK := hE.k
  have hl := lv_entry ([.ref (q 28 i)]) (n := 1) (Nat.le_of_ble_eq_true rfl)
  rw [lg_entry_eq]
  generalize (lg_sl ([.ref (q 28 i)]) ++ List.replicate (1 - (lg_sl ([.ref (q 28 i)])).length) Slot.unset).toArray = ls at hl ⊢
  have hl : lv_has ls 1 [(0, .ref (q 28 i))] := hl
  refine lv_aload_n hx hb dX5_isHot_0 rfl (lv_at hl 0 rfl) ?_
  have hi_1 := h.1
  have h := h.2
  obtain ⟨p_1, hp_1⟩ := cget_28 cI cZ cP cF q S hi_1
  refine va_get (D := D) (ci := 5) (v := .int (cv S 280 i 0)) (C := RX5) (T := TX5) (N := 9) hx hb hts (fun _ h => List.mem_cons_of_mem _ (List.mem_append_right _ h)) hown hK hP p_1 hp_1 rfl 0 (by decide) (hts (.fieldLink RX5 22 "TemplateForge$Heat" "hasCode" "Z") (List.mem_of_getElem? (i := 1) rfl)) (fun _ h9 => h9) rfl dX5_isHot_1 ?_
  refine lv_if_ne (tgt := 19) hx hb dX5_isHot_4 (by decide) (fun c_2 => ?_) (fun c_2 => ?_)
  · have h := h.1 c_2
    refine lv_iconst (v := 0) hx hb dX5_isHot_19 (by decide) ?_
    exact W.zret (v := 0) (ty := .boolean) hx hb hr (by decide) (fun t ht hW => ⟨_, rfl, h, ht⟩) (fun q h => by cases h) dX5_isHot_20
  · have h := h.2 c_2
    refine lv_aload_n hx hb dX5_isHot_7 rfl (lv_at hl 0 rfl) ?_
    have hi_3 := h.1
    have h := h.2
    obtain ⟨p_3, hp_3⟩ := cget_28 cI cZ cP cF q S hi_3
    refine va_get (D := D) (ci := 5) (v := .int (cv S 282 i 0)) (C := RX5) (T := TX5) (N := 9) hx hb hts (fun _ h => List.mem_cons_of_mem _ (List.mem_append_right _ h)) hown hK hP p_3 hp_3 rfl 2 (by decide) (hts (.fieldLink RX5 26 "TemplateForge$Heat" "counted" "I") (List.mem_of_getElem? (i := 2) rfl)) (fun _ h9 => h9) rfl dX5_isHot_8 ?_
    refine lv_iconst (v := 3) hx hb dX5_isHot_11 (by decide) ?_
    refine lv_icmp_lt (tgt := 19) hx hb dX5_isHot_12 (by decide) (fun c_4 => ?_) (fun c_4 => ?_)
    · have h := h.1 c_4
      refine lv_iconst (v := 0) hx hb dX5_isHot_19 (by decide) ?_
      exact W.zret (v := 0) (ty := .boolean) hx hb hr (by decide) (fun t ht hW => ⟨_, rfl, h, ht⟩) (fun q h => by cases h) dX5_isHot_20
    · have h := h.2 c_4
      refine lv_iconst (v := 1) hx hb dX5_isHot_15 (by decide) ?_
      refine lv_goto (tgt := 20) hx hb dX5_isHot_16 (by decide) ?_
      exact W.zret (v := 1) (ty := .boolean) hx hb hr (by decide) (fun t ht hW => ⟨_, rfl, h, ht⟩) (fun q h => by cases h) dX5_isHot_20

def wp_X5_markVarying (S : CST) (i : Nat) (a1 : Int32) (Post : CST → Prop) : Prop :=
  (((a1 : Int32) < 0) → (Post S)) ∧ ((¬ ((a1 : Int32) < 0)) → (((11 ≤ a1) → (Post S)) ∧ ((¬ (11 ≤ a1)) → (cin S 28 i ∧ (cin S 31 i ∧ vp_in a1 11 ∧ (∀ S5 : CST, S5 = cs S 310 i (upd (cv S 310 i) (a1 : Int32).toNatClampNeg (vp_nar .boolean 1)) → (Post S5)))))))
def zw_zd_X5_markVarying_w0 : List Cond := [.fieldLink RX5 19 "TemplateForge$Heat" "varying" "[Z"]
def zw_zd_X5_markVarying : List Cond := .code yX5_markVarying cX5_markVarying 2 none :: ((zw_zd_X5_markVarying_w0) ++ wsX50)
set_option maxHeartbeats 16000000 in
set_option maxRecDepth 100000 in
theorem zd_X5_markVarying (l : Launch) (D : va_G) (cI cZ cP cF : Nat) (q : Nat → Nat → Nat) (S : CST) (i : Nat) (a1 : Int32) (sz : Nat) (Post : CST → Prop) (h : wp_X5_markVarying S i a1 Post) : Met l yX5_markVarying zw_zd_X5_markVarying ({ frames := 0, cells := 0, slots := 0, locals := 0 }) (va_Pc [.ref (q 28 i), .int a1] (fun U => U.heap.size = sz ∧ va_P D vwCl (cW cI cZ cP cF q S) U.heap ∧ zF D cI cZ cP cF U ∧ va_D (fun _ => True) (cW cI cZ cP cF q S))) (va_Qv (fun S' => Post S') (fun (S' : CST) t => va_P D vwCl (cW cI cZ cP cF q S') t.heap ∧ va_D (va_A (cW cI cZ cP cF q S) sz) (cW cI cZ cP cF q S') ∧ S'.2 = S.2) (va_A (cW cI cZ cP cF q S) sz)) 0 0 (va_A (cW cI cZ cP cF q S) sz) := by
  unfold wp_X5_markVarying at h
  refine Met.ofW (cc := cX5_markVarying) (maxL := 2) (ret := none) (by decide) rfl ?_
  intro p e s m args below meth c s₁ B hml hv
  obtain ⟨rfl, hsz, hP, hE, hD0⟩ := hv
  have hx := B.exec
  have hb := B.bytes
  have hr := B.returns
  have hts := atoms_spec (ws := zw_zd_X5_markVarying) B.pre
  have hown : s.vm.findClass RX5 = some m.cls := findClass_of_methodNamed B.named
  have hlocks := B.notSynchronized
  have hK := hE.k
  subst hsz
  have hD := hD0.self (sz := s.heap.size)
  generalize hAe : va_A (cW cI cZ cP cF q S) s.heap.size = A at hD ⊢
  have hA : ∀ q : Nat, s.heap.size ≤ q → A q := fun q h => by rw [← hAe]; exact Or.inr h
  have hN : S.2 = S.2 := rfl
  have hl := lv_entry ([.ref (q 28 i), .int a1]) (n := 2) (Nat.le_of_ble_eq_true rfl)
  rw [lg_entry_eq]
  generalize (lg_sl ([.ref (q 28 i), .int a1]) ++ List.replicate (2 - (lg_sl ([.ref (q 28 i), .int a1])).length) Slot.unset).toArray = ls at hl ⊢
  have hl : lv_has ls 2 [(0, .ref (q 28 i)), (1, .int a1)] := hl
  have key : ∀ (H : Heap) (locs : List Loc), va_P D vwCl (cW cI cZ cP cF q S) H → va_S A s.heap H locs → W p l e (headSpec zw_zd_X5_markVarying ({ frames := 0, cells := 0, slots := 0, locals := 0 })).room s m ([.ref (q 28 i), .int a1] : List Value).toArray below meth c H locs 0 0 (MQ below (va_Qv (fun S' => Post S') (fun (S' : CST) t => va_P D vwCl (cW cI cZ cP cF q S') t.heap ∧ va_D A (cW cI cZ cP cF q S') ∧ S'.2 = S.2) A) ([.ref (q 28 i), .int a1] : List Value).toArray s 0 0 A) (F0 m 0 ls []) := by
    intro H locs hP hS
    refine lv_iload_n hx hb dX5_markVarying_0 rfl (lv_at hl 1 rfl) ?_
    refine lv_if_lt (tgt := 17) hx hb dX5_markVarying_1 (by decide) (fun c_1 => ?_) (fun c_1 => ?_)
    · have h := h.1 c_1
      exact W.vret hx hb hr (fun t ht hW => ⟨⟨S, rfl, h, by rw [ht]; exact hP, hD, hN⟩, hS.F ht⟩) hS.2.2 dX5_markVarying_17
    · have h := h.2 c_1
      refine lv_iload_n hx hb dX5_markVarying_4 rfl (lv_at hl 1 rfl) ?_
      refine lv_bipush (v := 11) hx hb dX5_markVarying_5 (by decide) ?_
      refine lv_icmp_ge (tgt := 17) hx hb dX5_markVarying_7 (by decide) (fun c_2 => ?_) (fun c_2 => ?_)
      · have h := h.1 c_2
        exact W.vret hx hb hr (fun t ht hW => ⟨⟨S, rfl, h, by rw [ht]; exact hP, hD, hN⟩, hS.F ht⟩) hS.2.2 dX5_markVarying_17
      · have h := h.2 c_2
        refine lv_aload_n hx hb dX5_markVarying_10 rfl (lv_at hl 0 rfl) ?_
        have hi_3 := h.1
        have h := h.2
        obtain ⟨p_3, hp_3⟩ := cget_28 cI cZ cP cF q S hi_3
        refine va_get (D := D) (ci := 5) (v := .ref (q 31 i)) (C := RX5) (T := TX5) (N := 9) hx hb hts (fun _ h => List.mem_cons_of_mem _ (List.mem_append_right _ h)) hown hK hP p_3 hp_3 rfl 8 (by decide) (hts (.fieldLink RX5 19 "TemplateForge$Heat" "varying" "[Z") (List.mem_of_getElem? (i := 1) rfl)) (fun _ h9 => h9) rfl dX5_markVarying_11 ?_
        refine lv_iload_n hx hb dX5_markVarying_14 rfl (lv_at hl 1 rfl) ?_
        refine lv_iconst (v := 1) hx hb dX5_markVarying_15 (by decide) ?_
        have hi_4 := h.1
        have h := h.2
        obtain ⟨p_4, hp_4⟩ := cget_31 cI cZ cP cF q S hi_4
        have hin_4 := h.1
        have h := h.2
        have hD0_4 := hD
        refine va_zast hx hb hK hP hD hS p_4 1 hp_4 rfl hin_4 dX5_markVarying_16 (fun H locs hP hD hS => ?_)
        obtain ⟨S5, eS5⟩ : ∃ z, z = cs S 310 i (upd (cv S 310 i) (a1 : Int32).toNatClampNeg (vp_nar .boolean 1)) := ⟨_, rfl⟩
        have hP : va_P D vwCl (cW cI cZ cP cF q S5) H := by rw [eS5, ← cW_put (k := 310) (κ := 31) (i := i) (g := (upd (cv S 310 i) (a1 : Int32).toNatClampNeg (vp_nar .boolean 1))) rfl hD0_4 hp_4 hi_4, cput_310]; exact hP
        have hD : va_D A (cW cI cZ cP cF q S5) := by rw [eS5, ← cW_put (k := 310) (κ := 31) (i := i) (g := (upd (cv S 310 i) (a1 : Int32).toNatClampNeg (vp_nar .boolean 1))) rfl hD0_4 hp_4 hi_4, cput_310]; exact hD
        have hN : S5.2 = S.2 := by rw [eS5]; exact hN
        have h := h S5 eS5
        exact W.vret hx hb hr (fun t ht hW => ⟨⟨S5, rfl, h, by rw [ht]; exact hP, hD, hN⟩, hS.F ht⟩) hS.2.2 dX5_markVarying_17
  exact key _ _ hP va_S.rf

def wp_X5_isVarying (S : CST) (i : Nat) (a1 : Int32) (Post : Int32 → Prop) : Prop :=
  (((a1 : Int32) < 0) → (Post 0)) ∧ ((¬ ((a1 : Int32) < 0)) → (((11 ≤ a1) → (Post 0)) ∧ ((¬ (11 ≤ a1)) → (cin S 28 i ∧ (cin S 31 i ∧ vp_in a1 11 ∧ (((((cv S 310 i (a1 : Int32).toNatClampNeg) : Int32) = 0) → (Post 0)) ∧ ((¬ (((cv S 310 i (a1 : Int32).toNatClampNeg) : Int32) = 0)) → (Post 1))))))))
def zw_zd_X5_isVarying_w0 : List Cond := [.fieldLink RX5 19 "TemplateForge$Heat" "varying" "[Z"]
def zw_zd_X5_isVarying : List Cond := .code yX5_isVarying cX5_isVarying 2 (some .boolean) :: ((zw_zd_X5_isVarying_w0) ++ wsX50)
set_option maxHeartbeats 16000000 in
set_option maxRecDepth 100000 in
theorem zd_X5_isVarying (l : Launch) (D : va_G) (cI cZ cP cF : Nat) (q : Nat → Nat → Nat) (S : CST) (i : Nat) (a1 : Int32) (Post : Int32 → Prop) (h : wp_X5_isVarying S i a1 Post) : Met l yX5_isVarying zw_zd_X5_isVarying ({ frames := 0, cells := 0, slots := 0, locals := 0 }) (va_Pc [.ref (q 28 i), .int a1] (fun U => va_P D vwCl (cW cI cZ cP cF q S) U.heap ∧ zF D cI cZ cP cF U)) (vp_Si Post) 0 0 (fun _ => False) := by
  unfold wp_X5_isVarying at h
  refine Met.ofW (cc := cX5_isVarying) (maxL := 2) (ret := (some .boolean)) (by decide) rfl ?_
  intro p e s m args below meth c s₁ B hml hv
  obtain ⟨rfl, hP, hE⟩ := hv
  have hx := B.exec
  have hb := B.bytes
  have hr := B.returns
  have hts := atoms_spec (ws := zw_zd_X5_isVarying) B.pre
  have hown : s.vm.findClass RX5 = some m.cls := findClass_of_methodNamed B.named
  have hlocks := B.notSynchronized
  have hK := hE.k
  have hl := lv_entry ([.ref (q 28 i), .int a1]) (n := 2) (Nat.le_of_ble_eq_true rfl)
  rw [lg_entry_eq]
  generalize (lg_sl ([.ref (q 28 i), .int a1]) ++ List.replicate (2 - (lg_sl ([.ref (q 28 i), .int a1])).length) Slot.unset).toArray = ls at hl ⊢
  have hl : lv_has ls 2 [(0, .ref (q 28 i)), (1, .int a1)] := hl
  refine lv_iload_n hx hb dX5_isVarying_0 rfl (lv_at hl 1 rfl) ?_
  refine lv_if_lt (tgt := 23) hx hb dX5_isVarying_1 (by decide) (fun c_1 => ?_) (fun c_1 => ?_)
  · have h := h.1 c_1
    refine lv_iconst (v := 0) hx hb dX5_isVarying_23 (by decide) ?_
    exact W.zret (v := 0) (ty := .boolean) hx hb hr (by decide) (fun t ht hW => ⟨_, rfl, h, ht⟩) (fun q h => by cases h) dX5_isVarying_24
  · have h := h.2 c_1
    refine lv_iload_n hx hb dX5_isVarying_4 rfl (lv_at hl 1 rfl) ?_
    refine lv_bipush (v := 11) hx hb dX5_isVarying_5 (by decide) ?_
    refine lv_icmp_ge (tgt := 23) hx hb dX5_isVarying_7 (by decide) (fun c_2 => ?_) (fun c_2 => ?_)
    · have h := h.1 c_2
      refine lv_iconst (v := 0) hx hb dX5_isVarying_23 (by decide) ?_
      exact W.zret (v := 0) (ty := .boolean) hx hb hr (by decide) (fun t ht hW => ⟨_, rfl, h, ht⟩) (fun q h => by cases h) dX5_isVarying_24
    · have h := h.2 c_2
      refine lv_aload_n hx hb dX5_isVarying_10 rfl (lv_at hl 0 rfl) ?_
      have hi_3 := h.1
      have h := h.2
      obtain ⟨p_3, hp_3⟩ := cget_28 cI cZ cP cF q S hi_3
      refine va_get (D := D) (ci := 5) (v := .ref (q 31 i)) (C := RX5) (T := TX5) (N := 9) hx hb hts (fun _ h => List.mem_cons_of_mem _ (List.mem_append_right _ h)) hown hK hP p_3 hp_3 rfl 8 (by decide) (hts (.fieldLink RX5 19 "TemplateForge$Heat" "varying" "[Z") (List.mem_of_getElem? (i := 1) rfl)) (fun _ h9 => h9) rfl dX5_isVarying_11 ?_
      refine lv_iload_n hx hb dX5_isVarying_14 rfl (lv_at hl 1 rfl) ?_
      have hi_4 := h.1
      have h := h.2
      obtain ⟨p_4, hp_4⟩ := cget_31 cI cZ cP cF q S hi_4
      have hin_4 := h.1
      have h := h.2
      refine va_zald hx hb hK hP p_4 1 hp_4 rfl hin_4 dX5_isVarying_15 ?_
      refine lv_if_eq (tgt := 23) hx hb dX5_isVarying_16 (by decide) (fun c_5 => ?_) (fun c_5 => ?_)
      · have h := h.1 c_5
        refine lv_iconst (v := 0) hx hb dX5_isVarying_23 (by decide) ?_
        exact W.zret (v := 0) (ty := .boolean) hx hb hr (by decide) (fun t ht hW => ⟨_, rfl, h, ht⟩) (fun q h => by cases h) dX5_isVarying_24
      · have h := h.2 c_5
        refine lv_iconst (v := 1) hx hb dX5_isVarying_19 (by decide) ?_
        refine lv_goto (tgt := 24) hx hb dX5_isVarying_20 (by decide) ?_
        exact W.zret (v := 1) (ty := .boolean) hx hb hr (by decide) (fun t ht hW => ⟨_, rfl, h, ht⟩) (fun q h => by cases h) dX5_isVarying_24

def wp_X5_wasAlways (S : CST) (i : Nat) (a1 : Int32) (Post : Int32 → Prop) : Prop :=
  cin S 28 i ∧ (((((cv S 282 i 0) : Int32) ≤ 0) → (Post 0)) ∧ ((¬ (((cv S 282 i 0) : Int32) ≤ 0)) → ((((a1 : Int32) < 0) → (Post 0)) ∧ ((¬ ((a1 : Int32) < 0)) → (((11 ≤ a1) → (Post 0)) ∧ ((¬ (11 ≤ a1)) → (cin S 28 i ∧ (cin S 30 i ∧ vp_in a1 11 ∧ (((((cv S 300 i (a1 : Int32).toNatClampNeg) : Int32) = 0) → (Post 0)) ∧ ((¬ (((cv S 300 i (a1 : Int32).toNatClampNeg) : Int32) = 0)) → (cin S 28 i ∧ (cin S 31 i ∧ vp_in a1 11 ∧ (((¬ (((cv S 310 i (a1 : Int32).toNatClampNeg) : Int32) = 0)) → (Post 0)) ∧ ((((cv S 310 i (a1 : Int32).toNatClampNeg) : Int32) = 0) → (Post 1)))))))))))))))
def zw_zd_X5_wasAlways_w0 : List Cond := [.fieldLink RX5 26 "TemplateForge$Heat" "counted" "I", .fieldLink RX5 15 "TemplateForge$Heat" "same" "[Z", .fieldLink RX5 19 "TemplateForge$Heat" "varying" "[Z"]
def zw_zd_X5_wasAlways : List Cond := .code yX5_wasAlways cX5_wasAlways 2 (some .boolean) :: ((zw_zd_X5_wasAlways_w0) ++ wsX50)
set_option maxHeartbeats 16000000 in
set_option maxRecDepth 100000 in
theorem zd_X5_wasAlways (l : Launch) (D : va_G) (cI cZ cP cF : Nat) (q : Nat → Nat → Nat) (S : CST) (i : Nat) (a1 : Int32) (Post : Int32 → Prop) (h : wp_X5_wasAlways S i a1 Post) : Met l yX5_wasAlways zw_zd_X5_wasAlways ({ frames := 0, cells := 0, slots := 0, locals := 0 }) (va_Pc [.ref (q 28 i), .int a1] (fun U => va_P D vwCl (cW cI cZ cP cF q S) U.heap ∧ zF D cI cZ cP cF U)) (vp_Si Post) 0 0 (fun _ => False) := by
  unfold wp_X5_wasAlways at h
  refine Met.ofW (cc := cX5_wasAlways) (maxL := 2) (ret := (some .boolean)) (by decide) rfl ?_
  intro p e s m args below meth c s₁ B hml hv
  obtain ⟨rfl, hP, hE⟩ := hv
  have hx := B.exec
  have hb := B.bytes
  have hr := B.returns
  have hts := atoms_spec (ws := zw_zd_X5_wasAlways) B.pre
  have hown : s.vm.findClass RX5 = some m.cls := findClass_of_methodNamed B.named
  have hlocks := B.notSynchronized
  have hK := hE.k
  have hl := lv_entry ([.ref (q 28 i), .int a1]) (n := 2) (Nat.le_of_ble_eq_true rfl)
  rw [lg_entry_eq]
  generalize (lg_sl ([.ref (q 28 i), .int a1]) ++ List.replicate (2 - (lg_sl ([.ref (q 28 i), .int a1])).length) Slot.unset).toArray = ls at hl ⊢
  have hl : lv_has ls 2 [(0, .ref (q 28 i)), (1, .int a1)] := hl
  refine lv_aload_n hx hb dX5_wasAlways_0 rfl (lv_at hl 0 rfl) ?_
  have hi_1 := h.1
  have h := h.2
  obtain ⟨p_1, hp_1⟩ := cget_28 cI cZ cP cF q S hi_1
  refine va_get (D := D) (ci := 5) (v := .int (cv S 282 i 0)) (C := RX5) (T := TX5) (N := 9) hx hb hts (fun _ h => List.mem_cons_of_mem _ (List.mem_append_right _ h)) hown hK hP p_1 hp_1 rfl 2 (by decide) (hts (.fieldLink RX5 26 "TemplateForge$Heat" "counted" "I") (List.mem_of_getElem? (i := 1) rfl)) (fun _ h9 => h9) rfl dX5_wasAlways_1 ?_
  refine lv_if_le (tgt := 39) hx hb dX5_wasAlways_4 (by decide) (fun c_2 => ?_) (fun c_2 => ?_)
  · have h := h.1 c_2
    refine lv_iconst (v := 0) hx hb dX5_wasAlways_39 (by decide) ?_
    exact W.zret (v := 0) (ty := .boolean) hx hb hr (by decide) (fun t ht hW => ⟨_, rfl, h, ht⟩) (fun q h => by cases h) dX5_wasAlways_40
  · have h := h.2 c_2
    refine lv_iload_n hx hb dX5_wasAlways_7 rfl (lv_at hl 1 rfl) ?_
    refine lv_if_lt (tgt := 39) hx hb dX5_wasAlways_8 (by decide) (fun c_3 => ?_) (fun c_3 => ?_)
    · have h := h.1 c_3
      refine lv_iconst (v := 0) hx hb dX5_wasAlways_39 (by decide) ?_
      exact W.zret (v := 0) (ty := .boolean) hx hb hr (by decide) (fun t ht hW => ⟨_, rfl, h, ht⟩) (fun q h => by cases h) dX5_wasAlways_40
    · have h := h.2 c_3
      refine lv_iload_n hx hb dX5_wasAlways_11 rfl (lv_at hl 1 rfl) ?_
      refine lv_bipush (v := 11) hx hb dX5_wasAlways_12 (by decide) ?_
      refine lv_icmp_ge (tgt := 39) hx hb dX5_wasAlways_14 (by decide) (fun c_4 => ?_) (fun c_4 => ?_)
      · have h := h.1 c_4
        refine lv_iconst (v := 0) hx hb dX5_wasAlways_39 (by decide) ?_
        exact W.zret (v := 0) (ty := .boolean) hx hb hr (by decide) (fun t ht hW => ⟨_, rfl, h, ht⟩) (fun q h => by cases h) dX5_wasAlways_40
      · have h := h.2 c_4
        refine lv_aload_n hx hb dX5_wasAlways_17 rfl (lv_at hl 0 rfl) ?_
        have hi_5 := h.1
        have h := h.2
        obtain ⟨p_5, hp_5⟩ := cget_28 cI cZ cP cF q S hi_5
        refine va_get (D := D) (ci := 5) (v := .ref (q 30 i)) (C := RX5) (T := TX5) (N := 9) hx hb hts (fun _ h => List.mem_cons_of_mem _ (List.mem_append_right _ h)) hown hK hP p_5 hp_5 rfl 7 (by decide) (hts (.fieldLink RX5 15 "TemplateForge$Heat" "same" "[Z") (List.mem_of_getElem? (i := 2) rfl)) (fun _ h9 => h9) rfl dX5_wasAlways_18 ?_
        refine lv_iload_n hx hb dX5_wasAlways_21 rfl (lv_at hl 1 rfl) ?_
        have hi_6 := h.1
        have h := h.2
        obtain ⟨p_6, hp_6⟩ := cget_30 cI cZ cP cF q S hi_6
        have hin_6 := h.1
        have h := h.2
        refine va_zald hx hb hK hP p_6 1 hp_6 rfl hin_6 dX5_wasAlways_22 ?_
        refine lv_if_eq (tgt := 39) hx hb dX5_wasAlways_23 (by decide) (fun c_7 => ?_) (fun c_7 => ?_)
        · have h := h.1 c_7
          refine lv_iconst (v := 0) hx hb dX5_wasAlways_39 (by decide) ?_
          exact W.zret (v := 0) (ty := .boolean) hx hb hr (by decide) (fun t ht hW => ⟨_, rfl, h, ht⟩) (fun q h => by cases h) dX5_wasAlways_40
        · have h := h.2 c_7
          refine lv_aload_n hx hb dX5_wasAlways_26 rfl (lv_at hl 0 rfl) ?_
          have hi_8 := h.1
          have h := h.2
          obtain ⟨p_8, hp_8⟩ := cget_28 cI cZ cP cF q S hi_8
          refine va_get (D := D) (ci := 5) (v := .ref (q 31 i)) (C := RX5) (T := TX5) (N := 9) hx hb hts (fun _ h => List.mem_cons_of_mem _ (List.mem_append_right _ h)) hown hK hP p_8 hp_8 rfl 8 (by decide) (hts (.fieldLink RX5 19 "TemplateForge$Heat" "varying" "[Z") (List.mem_of_getElem? (i := 3) rfl)) (fun _ h9 => h9) rfl dX5_wasAlways_27 ?_
          refine lv_iload_n hx hb dX5_wasAlways_30 rfl (lv_at hl 1 rfl) ?_
          have hi_9 := h.1
          have h := h.2
          obtain ⟨p_9, hp_9⟩ := cget_31 cI cZ cP cF q S hi_9
          have hin_9 := h.1
          have h := h.2
          refine va_zald hx hb hK hP p_9 1 hp_9 rfl hin_9 dX5_wasAlways_31 ?_
          refine lv_if_ne (tgt := 39) hx hb dX5_wasAlways_32 (by decide) (fun c_10 => ?_) (fun c_10 => ?_)
          · have h := h.1 c_10
            refine lv_iconst (v := 0) hx hb dX5_wasAlways_39 (by decide) ?_
            exact W.zret (v := 0) (ty := .boolean) hx hb hr (by decide) (fun t ht hW => ⟨_, rfl, h, ht⟩) (fun q h => by cases h) dX5_wasAlways_40
          · have h := h.2 c_10
            refine lv_iconst (v := 1) hx hb dX5_wasAlways_35 (by decide) ?_
            refine lv_goto (tgt := 40) hx hb dX5_wasAlways_36 (by decide) ?_
            exact W.zret (v := 1) (ty := .boolean) hx hb hr (by decide) (fun t ht hW => ⟨_, rfl, h, ht⟩) (fun q h => by cases h) dX5_wasAlways_40

def wp_X2_put (S : CST) (a1 : Int32) (a2 : Int32) (Post : CST → Prop) : Prop :=
  (((a1 : Int32) < 0) → (Post S)) ∧ ((¬ ((a1 : Int32) < 0)) → (((8 ≤ a1) → (Post S)) ∧ ((¬ (8 ≤ a1)) → (vp_in a1 8 ∧ (∀ S5 : CST, S5 = cs S 40 0 (upd (cv S 40 0) (a1 : Int32).toNatClampNeg a2) → (Post S5))))))
def zw_zd_X2_put_w0 : List Cond := [.fieldLink RX2 9 "TemplateForge$Data" "fields" "[I"]
def zw_zd_X2_put : List Cond := .code yX2_put cX2_put 3 none :: ((zw_zd_X2_put_w0) ++ wsX20)
set_option maxHeartbeats 16000000 in
set_option maxRecDepth 100000 in
theorem zd_X2_put (l : Launch) (D : va_G) (cI cZ cP cF : Nat) (q : Nat → Nat → Nat) (S : CST) (a1 : Int32) (a2 : Int32) (sz : Nat) (Post : CST → Prop) (h : wp_X2_put S a1 a2 Post) : Met l yX2_put zw_zd_X2_put ({ frames := 0, cells := 0, slots := 0, locals := 0 }) (va_Pc [.ref (q 3 0), .int a1, .int a2] (fun U => U.heap.size = sz ∧ va_P D vwCl (cW cI cZ cP cF q S) U.heap ∧ zF D cI cZ cP cF U ∧ va_D (fun _ => True) (cW cI cZ cP cF q S))) (va_Qv (fun S' => Post S') (fun (S' : CST) t => va_P D vwCl (cW cI cZ cP cF q S') t.heap ∧ va_D (va_A (cW cI cZ cP cF q S) sz) (cW cI cZ cP cF q S') ∧ S'.2 = S.2) (va_A (cW cI cZ cP cF q S) sz)) 0 0 (va_A (cW cI cZ cP cF q S) sz) := by
  unfold wp_X2_put at h
  refine Met.ofW (cc := cX2_put) (maxL := 3) (ret := none) (by decide) rfl ?_
  intro p e s m args below meth c s₁ B hml hv
  obtain ⟨rfl, hsz, hP, hE, hD0⟩ := hv
  have hx := B.exec
  have hb := B.bytes
  have hr := B.returns
  have hts := atoms_spec (ws := zw_zd_X2_put) B.pre
  have hown : s.vm.findClass RX2 = some m.cls := findClass_of_methodNamed B.named
  have hlocks := B.notSynchronized
  have hK := hE.k
  subst hsz
  have hD := hD0.self (sz := s.heap.size)
  generalize hAe : va_A (cW cI cZ cP cF q S) s.heap.size = A at hD ⊢
  have hA : ∀ q : Nat, s.heap.size ≤ q → A q := fun q h => by rw [← hAe]; exact Or.inr h
  have hN : S.2 = S.2 := rfl
  have hl := lv_entry ([.ref (q 3 0), .int a1, .int a2]) (n := 3) (Nat.le_of_ble_eq_true rfl)
  rw [lg_entry_eq]
  generalize (lg_sl ([.ref (q 3 0), .int a1, .int a2]) ++ List.replicate (3 - (lg_sl ([.ref (q 3 0), .int a1, .int a2])).length) Slot.unset).toArray = ls at hl ⊢
  have hl : lv_has ls 3 [(0, .ref (q 3 0)), (1, .int a1), (2, .int a2)] := hl
  have key : ∀ (H : Heap) (locs : List Loc), va_P D vwCl (cW cI cZ cP cF q S) H → va_S A s.heap H locs → W p l e (headSpec zw_zd_X2_put ({ frames := 0, cells := 0, slots := 0, locals := 0 })).room s m ([.ref (q 3 0), .int a1, .int a2] : List Value).toArray below meth c H locs 0 0 (MQ below (va_Qv (fun S' => Post S') (fun (S' : CST) t => va_P D vwCl (cW cI cZ cP cF q S') t.heap ∧ va_D A (cW cI cZ cP cF q S') ∧ S'.2 = S.2) A) ([.ref (q 3 0), .int a1, .int a2] : List Value).toArray s 0 0 A) (F0 m 0 ls []) := by
    intro H locs hP hS
    refine lv_iload_n hx hb dX2_put_0 rfl (lv_at hl 1 rfl) ?_
    refine lv_if_lt (tgt := 17) hx hb dX2_put_1 (by decide) (fun c_1 => ?_) (fun c_1 => ?_)
    · have h := h.1 c_1
      exact W.vret hx hb hr (fun t ht hW => ⟨⟨S, rfl, h, by rw [ht]; exact hP, hD, hN⟩, hS.F ht⟩) hS.2.2 dX2_put_17
    · have h := h.2 c_1
      refine lv_iload_n hx hb dX2_put_4 rfl (lv_at hl 1 rfl) ?_
      refine lv_bipush (v := 8) hx hb dX2_put_5 (by decide) ?_
      refine lv_icmp_ge (tgt := 17) hx hb dX2_put_7 (by decide) (fun c_2 => ?_) (fun c_2 => ?_)
      · have h := h.1 c_2
        exact W.vret hx hb hr (fun t ht hW => ⟨⟨S, rfl, h, by rw [ht]; exact hP, hD, hN⟩, hS.F ht⟩) hS.2.2 dX2_put_17
      · have h := h.2 c_2
        refine lv_aload_n hx hb dX2_put_10 rfl (lv_at hl 0 rfl) ?_
        obtain ⟨p_3, hp_3⟩ := cget_3 cI cZ cP cF q S
        have hi_3 : cin S 3 0 := Or.inl ⟨by decide, rfl⟩
        refine va_get (D := D) (ci := 2) (v := .ref (q 4 0)) (C := RX2) (T := TX2) (N := 3) hx hb hts (fun _ h => List.mem_cons_of_mem _ (List.mem_append_right _ h)) hown hK hP p_3 hp_3 rfl 0 (by decide) (hts (.fieldLink RX2 9 "TemplateForge$Data" "fields" "[I") (List.mem_of_getElem? (i := 1) rfl)) (fun _ h9 => h9) rfl dX2_put_11 ?_
        refine lv_iload_n hx hb dX2_put_14 rfl (lv_at hl 1 rfl) ?_
        refine lv_iload_n hx hb dX2_put_15 rfl (lv_at hl 2 rfl) ?_
        obtain ⟨p_4, hp_4⟩ := cget_4 cI cZ cP cF q S
        have hi_4 : cin S 4 0 := Or.inl ⟨by decide, rfl⟩
        have hin_4 := h.1
        have h := h.2
        have hD0_4 := hD
        refine va_iast hx hb hK hP hD hS p_4 0 hp_4 rfl hin_4 dX2_put_16 (fun H locs hP hD hS => ?_)
        obtain ⟨S5, eS5⟩ : ∃ z, z = cs S 40 0 (upd (cv S 40 0) (a1 : Int32).toNatClampNeg a2) := ⟨_, rfl⟩
        have hP : va_P D vwCl (cW cI cZ cP cF q S5) H := by rw [eS5, ← cW_put (k := 40) (κ := 4) (i := 0) (g := (upd (cv S 40 0) (a1 : Int32).toNatClampNeg a2)) rfl hD0_4 hp_4 hi_4, cput_40]; exact hP
        have hD : va_D A (cW cI cZ cP cF q S5) := by rw [eS5, ← cW_put (k := 40) (κ := 4) (i := 0) (g := (upd (cv S 40 0) (a1 : Int32).toNatClampNeg a2)) rfl hD0_4 hp_4 hi_4, cput_40]; exact hD
        have hN : S5.2 = S.2 := by rw [eS5]; exact hN
        have h := h S5 eS5
        exact W.vret hx hb hr (fun t ht hW => ⟨⟨S5, rfl, h, by rw [ht]; exact hP, hD, hN⟩, hS.F ht⟩) hS.2.2 dX2_put_17
  exact key _ _ hP va_S.rf

def wp_X2_itemOf (S : CST) (a1 : Int32) (a2 : Int32) (Post : Int32 → Prop) : Prop :=
  (((a2 : Int32) < 0) → (Post 0)) ∧ ((¬ ((a2 : Int32) < 0)) → (wp_X2_lengthOf S a1 (fun r3 => ((r3 ≤ a2) → (Post 0)) ∧ ((¬ (r3 ≤ a2)) → (((20 ≤ a2) → (Post 0)) ∧ ((¬ (20 ≤ a2)) → (vp_in ((20 * a1) + a2) 80 ∧ (Post (cv S 60 0 ((20 * a1) + a2 : Int32).toNatClampNeg)))))))))
def zw_zd_X2_itemOf_w0 : List Cond := [.code yX2_lengthOf cX2_lengthOf 2 (some .int), .fieldLink RX2 15 "TemplateForge$Data" "lengths" "[I", .methodLink RX2 30 yX2_lengthOf, .instanceMethod yX2_lengthOf, .selects RX2 yX2_lengthOf yX2_lengthOf, .initialized RX2, .fieldLink RX2 18 "TemplateForge$Data" "items" "[I"]
def zw_zd_X2_itemOf : List Cond := .code yX2_itemOf cX2_itemOf 3 (some .int) :: ((zw_zd_X2_itemOf_w0) ++ wsX20)
set_option maxRecDepth 100000 in
theorem zg_zd_X2_itemOf_zd_X2_lengthOf_30_a : GoodIn zw_zd_X2_itemOf [.methodLink RX2 30 yX2_lengthOf, .instanceMethod yX2_lengthOf, .selects RX2 yX2_lengthOf yX2_lengthOf, .initialized RX2] := goodIn_r _ [3, 4, 5, 6] rfl (by decide +kernel)
set_option maxRecDepth 100000 in
theorem zg_zd_X2_itemOf_zd_X2_lengthOf_30_c : GoodIn zw_zd_X2_itemOf [.code yX2_lengthOf cX2_lengthOf 2 (some .int)] := goodIn_r _ [1] rfl (by decide +kernel)
set_option maxRecDepth 100000 in
theorem zg_zd_X2_itemOf_zd_X2_lengthOf_30_0 : GoodIn zw_zd_X2_itemOf zw_zd_X2_lengthOf_w0 := goodIn_r _ [2] rfl (by decide +kernel)
theorem zg_zd_X2_itemOf_zd_X2_lengthOf_30 : GoodIn zw_zd_X2_itemOf (wsV RX2 30 RX2 yX2_lengthOf zw_zd_X2_lengthOf) := goodIn_app zg_zd_X2_itemOf_zd_X2_lengthOf_30_a (goodIn_ca (a := (zw_zd_X2_lengthOf_w0)) (show GoodIn zw_zd_X2_itemOf (.code yX2_lengthOf cX2_lengthOf 2 (some .int) :: (zw_zd_X2_lengthOf_w0)) from goodIn_app zg_zd_X2_itemOf_zd_X2_lengthOf_30_c (zg_zd_X2_itemOf_zd_X2_lengthOf_30_0)) (fun w h => ⟨(fun _ h => List.mem_cons_of_mem _ (List.mem_append_right _ h)) w h, good_of_word (List.all_eq_true.mp zgw_X2 w h)⟩))
set_option maxHeartbeats 16000000 in
set_option maxRecDepth 100000 in
theorem zd_X2_itemOf (l : Launch) (D : va_G) (cI cZ cP cF : Nat) (q : Nat → Nat → Nat) (S : CST) (a1 : Int32) (a2 : Int32) (Post : Int32 → Prop) (h : wp_X2_itemOf S a1 a2 Post) : Met l yX2_itemOf zw_zd_X2_itemOf ({ frames := 1, cells := 0, slots := 0, locals := 21 }) (va_Pc [.ref (q 3 0), .int a1, .int a2] (fun U => va_P D vwCl (cW cI cZ cP cF q S) U.heap ∧ zF D cI cZ cP cF U)) (vp_Si Post) 0 0 (fun _ => False) := by
  unfold wp_X2_itemOf at h
  refine Met.ofW (cc := cX2_itemOf) (maxL := 3) (ret := (some .int)) (by decide) rfl ?_
  intro p e s m args below meth c s₁ B hml hv
  obtain ⟨rfl, hP, hE⟩ := hv
  have hx := B.exec
  have hb := B.bytes
  have hr := B.returns
  have hts := atoms_spec (ws := zw_zd_X2_itemOf) B.pre
  have hown : s.vm.findClass RX2 = some m.cls := findClass_of_methodNamed B.named
  have hlocks := B.notSynchronized
  have hK := hE.k
  have hl := lv_entry ([.ref (q 3 0), .int a1, .int a2]) (n := 3) (Nat.le_of_ble_eq_true rfl)
  rw [lg_entry_eq]
  generalize (lg_sl ([.ref (q 3 0), .int a1, .int a2]) ++ List.replicate (3 - (lg_sl ([.ref (q 3 0), .int a1, .int a2])).length) Slot.unset).toArray = ls at hl ⊢
  have hl : lv_has ls 3 [(0, .ref (q 3 0)), (1, .int a1), (2, .int a2)] := hl
  refine lv_iload_n hx hb dX2_itemOf_0 rfl (lv_at hl 2 rfl) ?_
  refine lv_if_lt (tgt := 33) hx hb dX2_itemOf_1 (by decide) (fun c_1 => ?_) (fun c_1 => ?_)
  · have h := h.1 c_1
    refine lv_iconst (v := 0) hx hb dX2_itemOf_33 (by decide) ?_
    exact W.iret (v := 0) hx hb hr (fun t ht hW => ⟨_, rfl, h, ht⟩) (fun q h => by cases h) dX2_itemOf_34
  · have h := h.2 c_1
    refine lv_iload_n hx hb dX2_itemOf_4 rfl (lv_at hl 2 rfl) ?_
    refine lv_aload_n hx hb dX2_itemOf_5 rfl (lv_at hl 0 rfl) ?_
    refine lv_iload_n hx hb dX2_itemOf_6 rfl (lv_at hl 1 rfl) ?_
    obtain ⟨p_2, hp_2⟩ := cget_3 cI cZ cP cF q S
    have hi_2 : cin S 3 0 := Or.inl ⟨by decide, rfl⟩
    refine vp_callSi (va_Run.run (va_runV (As := [.int a1]) (rest := [.int a2]) ⟨hx, hb, hml, hown, hts⟩ (zd_X2_lengthOf l D cI cZ cP cF q S a1  _ h) (cwV 1 hts zg_zd_X2_itemOf_zd_X2_lengthOf_30 rfl rfl rfl (by decide +kernel) ⟨Nat.le_of_ble_eq_true rfl, Nat.le_of_ble_eq_true rfl⟩) ⟨zCR, va_recv hK hP (ci := 2) (q0 := p_2) rfl hp_2, fun U hU hW => ⟨rfl, by rw [hU]; exact hP, hE.warm hW⟩⟩ rfl rfl hl.1 rfl (lv_room (Nat.le_of_ble_eq_true rfl)) dX2_itemOf_7 ⟨Nat.le_of_ble_eq_true rfl, Nat.le_of_ble_eq_true rfl⟩)) (fun r3 h => ?_)
    refine lv_icmp_ge (tgt := 33) hx hb dX2_itemOf_10 (by decide) (fun c_4 => ?_) (fun c_4 => ?_)
    · have h := h.1 c_4
      refine lv_iconst (v := 0) hx hb dX2_itemOf_33 (by decide) ?_
      exact W.iret (v := 0) hx hb hr (fun t ht hW => ⟨_, rfl, h, ht⟩) (fun q h => by cases h) dX2_itemOf_34
    · have h := h.2 c_4
      refine lv_iload_n hx hb dX2_itemOf_13 rfl (lv_at hl 2 rfl) ?_
      refine lv_bipush (v := 20) hx hb dX2_itemOf_14 (by decide) ?_
      refine lv_icmp_ge (tgt := 33) hx hb dX2_itemOf_16 (by decide) (fun c_5 => ?_) (fun c_5 => ?_)
      · have h := h.1 c_5
        refine lv_iconst (v := 0) hx hb dX2_itemOf_33 (by decide) ?_
        exact W.iret (v := 0) hx hb hr (fun t ht hW => ⟨_, rfl, h, ht⟩) (fun q h => by cases h) dX2_itemOf_34
      · have h := h.2 c_5
        refine lv_aload_n hx hb dX2_itemOf_19 rfl (lv_at hl 0 rfl) ?_
        obtain ⟨p_6, hp_6⟩ := cget_3 cI cZ cP cF q S
        have hi_6 : cin S 3 0 := Or.inl ⟨by decide, rfl⟩
        refine va_get (D := D) (ci := 2) (v := .ref (q 6 0)) (C := RX2) (T := TX2) (N := 3) hx hb hts (fun _ h => List.mem_cons_of_mem _ (List.mem_append_right _ h)) hown hK hP p_6 hp_6 rfl 2 (by decide) (hts (.fieldLink RX2 18 "TemplateForge$Data" "items" "[I") (List.mem_of_getElem? (i := 7) rfl)) (fun _ h9 => h9) rfl dX2_itemOf_20 ?_
        refine lv_bipush (v := 20) hx hb dX2_itemOf_23 (by decide) ?_
        refine lv_iload_n hx hb dX2_itemOf_25 rfl (lv_at hl 1 rfl) ?_
        refine lv_imul hx hb dX2_itemOf_26 ?_
        refine lv_iload_n hx hb dX2_itemOf_27 rfl (lv_at hl 2 rfl) ?_
        refine lv_iadd hx hb dX2_itemOf_28 ?_
        obtain ⟨p_7, hp_7⟩ := cget_6 cI cZ cP cF q S
        have hi_7 : cin S 6 0 := Or.inl ⟨by decide, rfl⟩
        have hin_7 := h.1
        have h := h.2
        refine va_iald hx hb hK hP p_7 0 hp_7 rfl hin_7 dX2_itemOf_29 ?_
        refine lv_goto (tgt := 34) hx hb dX2_itemOf_30 (by decide) ?_
        exact W.iret (v := cv S 60 0 ((20 * a1) + a2 : Int32).toNatClampNeg) hx hb hr (fun t ht hW => ⟨_, rfl, h, ht⟩) (fun q h => by cases h) dX2_itemOf_34

def wp_X2_putItem (S : CST) (a1 : Int32) (a2 : Int32) (a3 : Int32) (Post : CST → Prop) : Prop :=
  (((a2 : Int32) < 0) → (Post S)) ∧ ((¬ ((a2 : Int32) < 0)) → (wp_X2_lengthOf S a1 (fun r3 => ((r3 ≤ a2) → (Post S)) ∧ ((¬ (r3 ≤ a2)) → (((20 ≤ a2) → (Post S)) ∧ ((¬ (20 ≤ a2)) → (vp_in ((20 * a1) + a2) 80 ∧ (∀ S8 : CST, S8 = cs S 60 0 (upd (cv S 60 0) ((20 * a1) + a2 : Int32).toNatClampNeg a3) → (Post S8)))))))))
def zw_zd_X2_putItem_w0 : List Cond := [.code yX2_lengthOf cX2_lengthOf 2 (some .int), .fieldLink RX2 15 "TemplateForge$Data" "lengths" "[I", .methodLink RX2 30 yX2_lengthOf, .instanceMethod yX2_lengthOf, .selects RX2 yX2_lengthOf yX2_lengthOf, .initialized RX2, .fieldLink RX2 18 "TemplateForge$Data" "items" "[I"]
def zw_zd_X2_putItem : List Cond := .code yX2_putItem cX2_putItem 4 none :: ((zw_zd_X2_putItem_w0) ++ wsX20)
set_option maxRecDepth 100000 in
theorem zg_zd_X2_putItem_zd_X2_lengthOf_30_a : GoodIn zw_zd_X2_putItem [.methodLink RX2 30 yX2_lengthOf, .instanceMethod yX2_lengthOf, .selects RX2 yX2_lengthOf yX2_lengthOf, .initialized RX2] := goodIn_r _ [3, 4, 5, 6] rfl (by decide +kernel)
set_option maxRecDepth 100000 in
theorem zg_zd_X2_putItem_zd_X2_lengthOf_30_c : GoodIn zw_zd_X2_putItem [.code yX2_lengthOf cX2_lengthOf 2 (some .int)] := goodIn_r _ [1] rfl (by decide +kernel)
set_option maxRecDepth 100000 in
theorem zg_zd_X2_putItem_zd_X2_lengthOf_30_0 : GoodIn zw_zd_X2_putItem zw_zd_X2_lengthOf_w0 := goodIn_r _ [2] rfl (by decide +kernel)
theorem zg_zd_X2_putItem_zd_X2_lengthOf_30 : GoodIn zw_zd_X2_putItem (wsV RX2 30 RX2 yX2_lengthOf zw_zd_X2_lengthOf) := goodIn_app zg_zd_X2_putItem_zd_X2_lengthOf_30_a (goodIn_ca (a := (zw_zd_X2_lengthOf_w0)) (show GoodIn zw_zd_X2_putItem (.code yX2_lengthOf cX2_lengthOf 2 (some .int) :: (zw_zd_X2_lengthOf_w0)) from goodIn_app zg_zd_X2_putItem_zd_X2_lengthOf_30_c (zg_zd_X2_putItem_zd_X2_lengthOf_30_0)) (fun w h => ⟨(fun _ h => List.mem_cons_of_mem _ (List.mem_append_right _ h)) w h, good_of_word (List.all_eq_true.mp zgw_X2 w h)⟩))
set_option maxHeartbeats 16000000 in
set_option maxRecDepth 100000 in
theorem zd_X2_putItem (l : Launch) (D : va_G) (cI cZ cP cF : Nat) (q : Nat → Nat → Nat) (S : CST) (a1 : Int32) (a2 : Int32) (a3 : Int32) (sz : Nat) (Post : CST → Prop) (h : wp_X2_putItem S a1 a2 a3 Post) : Met l yX2_putItem zw_zd_X2_putItem ({ frames := 1, cells := 0, slots := 0, locals := 21 }) (va_Pc [.ref (q 3 0), .int a1, .int a2, .int a3] (fun U => U.heap.size = sz ∧ va_P D vwCl (cW cI cZ cP cF q S) U.heap ∧ zF D cI cZ cP cF U ∧ va_D (fun _ => True) (cW cI cZ cP cF q S))) (va_Qv (fun S' => Post S') (fun (S' : CST) t => va_P D vwCl (cW cI cZ cP cF q S') t.heap ∧ va_D (va_A (cW cI cZ cP cF q S) sz) (cW cI cZ cP cF q S') ∧ S'.2 = S.2) (va_A (cW cI cZ cP cF q S) sz)) 0 0 (va_A (cW cI cZ cP cF q S) sz) := by
  unfold wp_X2_putItem at h
  refine Met.ofW (cc := cX2_putItem) (maxL := 4) (ret := none) (by decide) rfl ?_
  intro p e s m args below meth c s₁ B hml hv
  obtain ⟨rfl, hsz, hP, hE, hD0⟩ := hv
  have hx := B.exec
  have hb := B.bytes
  have hr := B.returns
  have hts := atoms_spec (ws := zw_zd_X2_putItem) B.pre
  have hown : s.vm.findClass RX2 = some m.cls := findClass_of_methodNamed B.named
  have hlocks := B.notSynchronized
  have hK := hE.k
  subst hsz
  have hD := hD0.self (sz := s.heap.size)
  generalize hAe : va_A (cW cI cZ cP cF q S) s.heap.size = A at hD ⊢
  have hA : ∀ q : Nat, s.heap.size ≤ q → A q := fun q h => by rw [← hAe]; exact Or.inr h
  have hN : S.2 = S.2 := rfl
  have hl := lv_entry ([.ref (q 3 0), .int a1, .int a2, .int a3]) (n := 4) (Nat.le_of_ble_eq_true rfl)
  rw [lg_entry_eq]
  generalize (lg_sl ([.ref (q 3 0), .int a1, .int a2, .int a3]) ++ List.replicate (4 - (lg_sl ([.ref (q 3 0), .int a1, .int a2, .int a3])).length) Slot.unset).toArray = ls at hl ⊢
  have hl : lv_has ls 4 [(0, .ref (q 3 0)), (1, .int a1), (2, .int a2), (3, .int a3)] := hl
  have key : ∀ (H : Heap) (locs : List Loc), va_P D vwCl (cW cI cZ cP cF q S) H → va_S A s.heap H locs → W p l e (headSpec zw_zd_X2_putItem ({ frames := 1, cells := 0, slots := 0, locals := 21 })).room s m ([.ref (q 3 0), .int a1, .int a2, .int a3] : List Value).toArray below meth c H locs 0 0 (MQ below (va_Qv (fun S' => Post S') (fun (S' : CST) t => va_P D vwCl (cW cI cZ cP cF q S') t.heap ∧ va_D A (cW cI cZ cP cF q S') ∧ S'.2 = S.2) A) ([.ref (q 3 0), .int a1, .int a2, .int a3] : List Value).toArray s 0 0 A) (F0 m 0 ls []) := by
    intro H locs hP hS
    refine lv_iload_n hx hb dX2_putItem_0 rfl (lv_at hl 2 rfl) ?_
    refine lv_if_lt (tgt := 31) hx hb dX2_putItem_1 (by decide) (fun c_1 => ?_) (fun c_1 => ?_)
    · have h := h.1 c_1
      exact W.vret hx hb hr (fun t ht hW => ⟨⟨S, rfl, h, by rw [ht]; exact hP, hD, hN⟩, hS.F ht⟩) hS.2.2 dX2_putItem_31
    · have h := h.2 c_1
      refine lv_iload_n hx hb dX2_putItem_4 rfl (lv_at hl 2 rfl) ?_
      refine lv_aload_n hx hb dX2_putItem_5 rfl (lv_at hl 0 rfl) ?_
      refine lv_iload_n hx hb dX2_putItem_6 rfl (lv_at hl 1 rfl) ?_
      obtain ⟨p_2, hp_2⟩ := cget_3 cI cZ cP cF q S
      have hi_2 : cin S 3 0 := Or.inl ⟨by decide, rfl⟩
      refine vp_callSi (va_Run.run (va_runV (As := [.int a1]) (rest := [.int a2]) ⟨hx, hb, hml, hown, hts⟩ (zd_X2_lengthOf l D cI cZ cP cF q S a1  _ h) (cwV 1 hts zg_zd_X2_putItem_zd_X2_lengthOf_30 rfl rfl rfl (by decide +kernel) ⟨Nat.le_of_ble_eq_true rfl, Nat.le_of_ble_eq_true rfl⟩) ⟨zCR, va_recv hK hP (ci := 2) (q0 := p_2) rfl hp_2, fun U hU hW => ⟨rfl, by rw [hU]; exact hP, hE.warm hW⟩⟩ rfl rfl hl.1 rfl (lv_room (Nat.le_of_ble_eq_true rfl)) dX2_putItem_7 ⟨Nat.le_of_ble_eq_true rfl, Nat.le_of_ble_eq_true rfl⟩)) (fun r3 h => ?_)
      refine lv_icmp_ge (tgt := 31) hx hb dX2_putItem_10 (by decide) (fun c_4 => ?_) (fun c_4 => ?_)
      · have h := h.1 c_4
        exact W.vret hx hb hr (fun t ht hW => ⟨⟨S, rfl, h, by rw [ht]; exact hP, hD, hN⟩, hS.F ht⟩) hS.2.2 dX2_putItem_31
      · have h := h.2 c_4
        refine lv_iload_n hx hb dX2_putItem_13 rfl (lv_at hl 2 rfl) ?_
        refine lv_bipush (v := 20) hx hb dX2_putItem_14 (by decide) ?_
        refine lv_icmp_ge (tgt := 31) hx hb dX2_putItem_16 (by decide) (fun c_5 => ?_) (fun c_5 => ?_)
        · have h := h.1 c_5
          exact W.vret hx hb hr (fun t ht hW => ⟨⟨S, rfl, h, by rw [ht]; exact hP, hD, hN⟩, hS.F ht⟩) hS.2.2 dX2_putItem_31
        · have h := h.2 c_5
          refine lv_aload_n hx hb dX2_putItem_19 rfl (lv_at hl 0 rfl) ?_
          obtain ⟨p_6, hp_6⟩ := cget_3 cI cZ cP cF q S
          have hi_6 : cin S 3 0 := Or.inl ⟨by decide, rfl⟩
          refine va_get (D := D) (ci := 2) (v := .ref (q 6 0)) (C := RX2) (T := TX2) (N := 3) hx hb hts (fun _ h => List.mem_cons_of_mem _ (List.mem_append_right _ h)) hown hK hP p_6 hp_6 rfl 2 (by decide) (hts (.fieldLink RX2 18 "TemplateForge$Data" "items" "[I") (List.mem_of_getElem? (i := 7) rfl)) (fun _ h9 => h9) rfl dX2_putItem_20 ?_
          refine lv_bipush (v := 20) hx hb dX2_putItem_23 (by decide) ?_
          refine lv_iload_n hx hb dX2_putItem_25 rfl (lv_at hl 1 rfl) ?_
          refine lv_imul hx hb dX2_putItem_26 ?_
          refine lv_iload_n hx hb dX2_putItem_27 rfl (lv_at hl 2 rfl) ?_
          refine lv_iadd hx hb dX2_putItem_28 ?_
          refine lv_iload_n hx hb dX2_putItem_29 rfl (lv_at hl 3 rfl) ?_
          obtain ⟨p_7, hp_7⟩ := cget_6 cI cZ cP cF q S
          have hi_7 : cin S 6 0 := Or.inl ⟨by decide, rfl⟩
          have hin_7 := h.1
          have h := h.2
          have hD0_7 := hD
          refine va_iast hx hb hK hP hD hS p_7 0 hp_7 rfl hin_7 dX2_putItem_30 (fun H locs hP hD hS => ?_)
          obtain ⟨S8, eS8⟩ : ∃ z, z = cs S 60 0 (upd (cv S 60 0) ((20 * a1) + a2 : Int32).toNatClampNeg a3) := ⟨_, rfl⟩
          have hP : va_P D vwCl (cW cI cZ cP cF q S8) H := by rw [eS8, ← cW_put (k := 60) (κ := 6) (i := 0) (g := (upd (cv S 60 0) ((20 * a1) + a2 : Int32).toNatClampNeg a3)) rfl hD0_7 hp_7 hi_7, cput_60]; exact hP
          have hD : va_D A (cW cI cZ cP cF q S8) := by rw [eS8, ← cW_put (k := 60) (κ := 6) (i := 0) (g := (upd (cv S 60 0) ((20 * a1) + a2 : Int32).toNatClampNeg a3)) rfl hD0_7 hp_7 hi_7, cput_60]; exact hD
          have hN : S8.2 = S.2 := by rw [eS8]; exact hN
          have h := h S8 eS8
          exact W.vret hx hb hr (fun t ht hW => ⟨⟨S8, rfl, h, by rw [ht]; exact hP, hD, hN⟩, hS.F ht⟩) hS.2.2 dX2_putItem_31
  exact key _ _ hP va_S.rf

def wp_X3_begin (S : CST) (a1 : Int32) (Post : CST → Prop) : Prop :=
  (((a1 : Int32) < 0) → (Post S)) ∧ ((¬ ((a1 : Int32) < 0)) → (((60 ≤ a1) → (Post S)) ∧ ((¬ (60 ≤ a1)) → (vp_in a1 60 ∧ (∀ S6 : CST, S6 = cs S 90 0 (upd (cv S 90 0) (a1 : Int32).toNatClampNeg (cv S 72 0 0)) → (Post S6))))))
def zw_zd_X3_begin_w0 : List Cond := [.fieldLink RX3 15 "TemplateForge$Draft" "starts" "[I", .fieldLink RX3 18 "TemplateForge$Draft" "parts" "I"]
def zw_zd_X3_begin : List Cond := .code yX3_begin cX3_begin 2 none :: ((zw_zd_X3_begin_w0) ++ wsX30)
set_option maxHeartbeats 16000000 in
set_option maxRecDepth 100000 in
theorem zd_X3_begin (l : Launch) (D : va_G) (cI cZ cP cF : Nat) (q : Nat → Nat → Nat) (S : CST) (a1 : Int32) (sz : Nat) (Post : CST → Prop) (h : wp_X3_begin S a1 Post) : Met l yX3_begin zw_zd_X3_begin ({ frames := 0, cells := 0, slots := 0, locals := 0 }) (va_Pc [.ref (q 7 0), .int a1] (fun U => U.heap.size = sz ∧ va_P D vwCl (cW cI cZ cP cF q S) U.heap ∧ zF D cI cZ cP cF U ∧ va_D (fun _ => True) (cW cI cZ cP cF q S))) (va_Qv (fun S' => Post S') (fun (S' : CST) t => va_P D vwCl (cW cI cZ cP cF q S') t.heap ∧ va_D (va_A (cW cI cZ cP cF q S) sz) (cW cI cZ cP cF q S') ∧ S'.2 = S.2) (va_A (cW cI cZ cP cF q S) sz)) 0 0 (va_A (cW cI cZ cP cF q S) sz) := by
  unfold wp_X3_begin at h
  refine Met.ofW (cc := cX3_begin) (maxL := 2) (ret := none) (by decide) rfl ?_
  intro p e s m args below meth c s₁ B hml hv
  obtain ⟨rfl, hsz, hP, hE, hD0⟩ := hv
  have hx := B.exec
  have hb := B.bytes
  have hr := B.returns
  have hts := atoms_spec (ws := zw_zd_X3_begin) B.pre
  have hown : s.vm.findClass RX3 = some m.cls := findClass_of_methodNamed B.named
  have hlocks := B.notSynchronized
  have hK := hE.k
  subst hsz
  have hD := hD0.self (sz := s.heap.size)
  generalize hAe : va_A (cW cI cZ cP cF q S) s.heap.size = A at hD ⊢
  have hA : ∀ q : Nat, s.heap.size ≤ q → A q := fun q h => by rw [← hAe]; exact Or.inr h
  have hN : S.2 = S.2 := rfl
  have hl := lv_entry ([.ref (q 7 0), .int a1]) (n := 2) (Nat.le_of_ble_eq_true rfl)
  rw [lg_entry_eq]
  generalize (lg_sl ([.ref (q 7 0), .int a1]) ++ List.replicate (2 - (lg_sl ([.ref (q 7 0), .int a1])).length) Slot.unset).toArray = ls at hl ⊢
  have hl : lv_has ls 2 [(0, .ref (q 7 0)), (1, .int a1)] := hl
  have key : ∀ (H : Heap) (locs : List Loc), va_P D vwCl (cW cI cZ cP cF q S) H → va_S A s.heap H locs → W p l e (headSpec zw_zd_X3_begin ({ frames := 0, cells := 0, slots := 0, locals := 0 })).room s m ([.ref (q 7 0), .int a1] : List Value).toArray below meth c H locs 0 0 (MQ below (va_Qv (fun S' => Post S') (fun (S' : CST) t => va_P D vwCl (cW cI cZ cP cF q S') t.heap ∧ va_D A (cW cI cZ cP cF q S') ∧ S'.2 = S.2) A) ([.ref (q 7 0), .int a1] : List Value).toArray s 0 0 A) (F0 m 0 ls []) := by
    intro H locs hP hS
    refine lv_iload_n hx hb dX3_begin_0 rfl (lv_at hl 1 rfl) ?_
    refine lv_if_lt (tgt := 20) hx hb dX3_begin_1 (by decide) (fun c_1 => ?_) (fun c_1 => ?_)
    · have h := h.1 c_1
      exact W.vret hx hb hr (fun t ht hW => ⟨⟨S, rfl, h, by rw [ht]; exact hP, hD, hN⟩, hS.F ht⟩) hS.2.2 dX3_begin_20
    · have h := h.2 c_1
      refine lv_iload_n hx hb dX3_begin_4 rfl (lv_at hl 1 rfl) ?_
      refine lv_bipush (v := 60) hx hb dX3_begin_5 (by decide) ?_
      refine lv_icmp_ge (tgt := 20) hx hb dX3_begin_7 (by decide) (fun c_2 => ?_) (fun c_2 => ?_)
      · have h := h.1 c_2
        exact W.vret hx hb hr (fun t ht hW => ⟨⟨S, rfl, h, by rw [ht]; exact hP, hD, hN⟩, hS.F ht⟩) hS.2.2 dX3_begin_20
      · have h := h.2 c_2
        refine lv_aload_n hx hb dX3_begin_10 rfl (lv_at hl 0 rfl) ?_
        obtain ⟨p_3, hp_3⟩ := cget_7 cI cZ cP cF q S
        have hi_3 : cin S 7 0 := Or.inl ⟨by decide, rfl⟩
        refine va_get (D := D) (ci := 3) (v := .ref (q 9 0)) (C := RX3) (T := TX3) (N := 3) hx hb hts (fun _ h => List.mem_cons_of_mem _ (List.mem_append_right _ h)) hown hK hP p_3 hp_3 rfl 1 (by decide) (hts (.fieldLink RX3 15 "TemplateForge$Draft" "starts" "[I") (List.mem_of_getElem? (i := 1) rfl)) (fun _ h9 => h9) rfl dX3_begin_11 ?_
        refine lv_iload_n hx hb dX3_begin_14 rfl (lv_at hl 1 rfl) ?_
        refine lv_aload_n hx hb dX3_begin_15 rfl (lv_at hl 0 rfl) ?_
        obtain ⟨p_4, hp_4⟩ := cget_7 cI cZ cP cF q S
        have hi_4 : cin S 7 0 := Or.inl ⟨by decide, rfl⟩
        refine va_get (D := D) (ci := 3) (v := .int (cv S 72 0 0)) (C := RX3) (T := TX3) (N := 3) hx hb hts (fun _ h => List.mem_cons_of_mem _ (List.mem_append_right _ h)) hown hK hP p_4 hp_4 rfl 2 (by decide) (hts (.fieldLink RX3 18 "TemplateForge$Draft" "parts" "I") (List.mem_of_getElem? (i := 2) rfl)) (fun _ h9 => h9) rfl dX3_begin_16 ?_
        obtain ⟨p_5, hp_5⟩ := cget_9 cI cZ cP cF q S
        have hi_5 : cin S 9 0 := Or.inl ⟨by decide, rfl⟩
        have hin_5 := h.1
        have h := h.2
        have hD0_5 := hD
        refine va_iast hx hb hK hP hD hS p_5 0 hp_5 rfl hin_5 dX3_begin_19 (fun H locs hP hD hS => ?_)
        obtain ⟨S6, eS6⟩ : ∃ z, z = cs S 90 0 (upd (cv S 90 0) (a1 : Int32).toNatClampNeg (cv S 72 0 0)) := ⟨_, rfl⟩
        have hP : va_P D vwCl (cW cI cZ cP cF q S6) H := by rw [eS6, ← cW_put (k := 90) (κ := 9) (i := 0) (g := (upd (cv S 90 0) (a1 : Int32).toNatClampNeg (cv S 72 0 0))) rfl hD0_5 hp_5 hi_5, cput_90]; exact hP
        have hD : va_D A (cW cI cZ cP cF q S6) := by rw [eS6, ← cW_put (k := 90) (κ := 9) (i := 0) (g := (upd (cv S 90 0) (a1 : Int32).toNatClampNeg (cv S 72 0 0))) rfl hD0_5 hp_5 hi_5, cput_90]; exact hD
        have hN : S6.2 = S.2 := by rw [eS6]; exact hN
        have h := h S6 eS6
        exact W.vret hx hb hr (fun t ht hW => ⟨⟨S6, rfl, h, by rw [ht]; exact hP, hD, hN⟩, hS.F ht⟩) hS.2.2 dX3_begin_20
  exact key _ _ hP va_S.rf

def wp_X3_add (S : CST) (a1 : Int32) (a2 : Int32) (a3 : Int32) (a4 : Int32) (a5 : Int32) (Post : CST → Prop) : Prop :=
  ((((5 * (cv S 72 0 0)) : Int32) < 0) → (Post S)) ∧ ((¬ (((5 * (cv S 72 0 0)) : Int32) < 0)) → ((((((5 * (cv S 72 0 0)) + 5) : Int32) ≤ 7555) → (vp_in (5 * (cv S 72 0 0)) 7555 ∧ (∀ S8 : CST, S8 = cs S 80 0 (upd (cv S 80 0) (5 * (cv S 72 0 0) : Int32).toNatClampNeg a1) → (vp_in ((5 * (cv S 72 0 0)) + 1) 7555 ∧ (∀ S11 : CST, S11 = cs S8 80 0 (upd (cv S8 80 0) ((5 * (cv S 72 0 0)) + 1 : Int32).toNatClampNeg a2) → (vp_in ((5 * (cv S 72 0 0)) + 2) 7555 ∧ (∀ S14 : CST, S14 = cs S11 80 0 (upd (cv S11 80 0) ((5 * (cv S 72 0 0)) + 2 : Int32).toNatClampNeg a3) → (vp_in ((5 * (cv S 72 0 0)) + 3) 7555 ∧ (∀ S17 : CST, S17 = cs S14 80 0 (upd (cv S14 80 0) ((5 * (cv S 72 0 0)) + 3 : Int32).toNatClampNeg a4) → (vp_in ((5 * (cv S 72 0 0)) + 4) 7555 ∧ (∀ S20 : CST, S20 = cs S17 80 0 (upd (cv S17 80 0) ((5 * (cv S 72 0 0)) + 4 : Int32).toNatClampNeg a5) → (∀ S23 : CST, S23 = cs S20 72 0 (fun _ => (cv S20 72 0 0) + 1) → (Post S23))))))))))))) ∧ ((¬ ((((5 * (cv S 72 0 0)) + 5) : Int32) ≤ 7555)) → (Post S))))
def zw_zd_X3_add_w0 : List Cond := [.fieldLink RX3 18 "TemplateForge$Draft" "parts" "I", .fieldLink RX3 9 "TemplateForge$Draft" "cells" "[I"]
def zw_zd_X3_add : List Cond := .code yX3_add cX3_add 7 none :: ((zw_zd_X3_add_w0) ++ wsX30)
set_option maxHeartbeats 16000000 in
set_option maxRecDepth 100000 in
theorem zd_X3_add (l : Launch) (D : va_G) (cI cZ cP cF : Nat) (q : Nat → Nat → Nat) (S : CST) (a1 : Int32) (a2 : Int32) (a3 : Int32) (a4 : Int32) (a5 : Int32) (sz : Nat) (Post : CST → Prop) (h : wp_X3_add S a1 a2 a3 a4 a5 Post) : Met l yX3_add zw_zd_X3_add ({ frames := 0, cells := 0, slots := 0, locals := 0 }) (va_Pc [.ref (q 7 0), .int a1, .int a2, .int a3, .int a4, .int a5] (fun U => U.heap.size = sz ∧ va_P D vwCl (cW cI cZ cP cF q S) U.heap ∧ zF D cI cZ cP cF U ∧ va_D (fun _ => True) (cW cI cZ cP cF q S))) (va_Qv (fun S' => Post S') (fun (S' : CST) t => va_P D vwCl (cW cI cZ cP cF q S') t.heap ∧ va_D (va_A (cW cI cZ cP cF q S) sz) (cW cI cZ cP cF q S') ∧ S'.2 = S.2) (va_A (cW cI cZ cP cF q S) sz)) 0 0 (va_A (cW cI cZ cP cF q S) sz) := by
  unfold wp_X3_add at h
  refine Met.ofW (cc := cX3_add) (maxL := 7) (ret := none) (by decide) rfl ?_
  intro p e s m args below meth c s₁ B hml hv
  obtain ⟨rfl, hsz, hP, hE, hD0⟩ := hv
  have hx := B.exec
  have hb := B.bytes
  have hr := B.returns
  have hts := atoms_spec (ws := zw_zd_X3_add) B.pre
  have hown : s.vm.findClass RX3 = some m.cls := findClass_of_methodNamed B.named
  have hlocks := B.notSynchronized
  have hK := hE.k
  subst hsz
  have hD := hD0.self (sz := s.heap.size)
  generalize hAe : va_A (cW cI cZ cP cF q S) s.heap.size = A at hD ⊢
  have hA : ∀ q : Nat, s.heap.size ≤ q → A q := fun q h => by rw [← hAe]; exact Or.inr h
  have hN : S.2 = S.2 := rfl
  have hl := lv_entry ([.ref (q 7 0), .int a1, .int a2, .int a3, .int a4, .int a5]) (n := 7) (Nat.le_of_ble_eq_true rfl)
  rw [lg_entry_eq]
  generalize (lg_sl ([.ref (q 7 0), .int a1, .int a2, .int a3, .int a4, .int a5]) ++ List.replicate (7 - (lg_sl ([.ref (q 7 0), .int a1, .int a2, .int a3, .int a4, .int a5])).length) Slot.unset).toArray = ls at hl ⊢
  have hl : lv_has ls 7 [(0, .ref (q 7 0)), (1, .int a1), (2, .int a2), (3, .int a3), (4, .int a4), (5, .int a5)] := hl
  have key : ∀ (H : Heap) (locs : List Loc), va_P D vwCl (cW cI cZ cP cF q S) H → va_S A s.heap H locs → W p l e (headSpec zw_zd_X3_add ({ frames := 0, cells := 0, slots := 0, locals := 0 })).room s m ([.ref (q 7 0), .int a1, .int a2, .int a3, .int a4, .int a5] : List Value).toArray below meth c H locs 0 0 (MQ below (va_Qv (fun S' => Post S') (fun (S' : CST) t => va_P D vwCl (cW cI cZ cP cF q S') t.heap ∧ va_D A (cW cI cZ cP cF q S') ∧ S'.2 = S.2) A) ([.ref (q 7 0), .int a1, .int a2, .int a3, .int a4, .int a5] : List Value).toArray s 0 0 A) (F0 m 0 ls []) := by
    intro H locs hP hS
    refine lv_iconst (v := 5) hx hb dX3_add_0 (by decide) ?_
    refine lv_aload_n hx hb dX3_add_1 rfl (lv_at hl 0 rfl) ?_
    obtain ⟨p_1, hp_1⟩ := cget_7 cI cZ cP cF q S
    have hi_1 : cin S 7 0 := Or.inl ⟨by decide, rfl⟩
    refine va_get (D := D) (ci := 3) (v := .int (cv S 72 0 0)) (C := RX3) (T := TX3) (N := 3) hx hb hts (fun _ h => List.mem_cons_of_mem _ (List.mem_append_right _ h)) hown hK hP p_1 hp_1 rfl 2 (by decide) (hts (.fieldLink RX3 18 "TemplateForge$Draft" "parts" "I") (List.mem_of_getElem? (i := 1) rfl)) (fun _ h9 => h9) rfl dX3_add_2 ?_
    refine lv_imul hx hb dX3_add_5 ?_
    refine lv_istore (lv' := [(6, .int (5 * (cv S 72 0 0))), (0, .ref (q 7 0)), (1, .int a1), (2, .int a2), (3, .int a3), (4, .int a4), (5, .int a5)]) hx hb dX3_add_6 hl (by decide) rfl (fun ls hl => ?_)
    refine lv_iload hx hb dX3_add_8 (lv_at hl 0 rfl) ?_
    refine lv_if_lt (tgt := 25) hx hb dX3_add_10 (by decide) (fun c_2 => ?_) (fun c_2 => ?_)
    · have h := h.1 c_2
      exact W.vret hx hb hr (fun t ht hW => ⟨⟨S, rfl, h, by rw [ht]; exact hP, hD, hN⟩, hS.F ht⟩) hS.2.2 dX3_add_25
    · have h := h.2 c_2
      refine lv_iload hx hb dX3_add_13 (lv_at hl 0 rfl) ?_
      refine lv_iconst (v := 5) hx hb dX3_add_15 (by decide) ?_
      refine lv_iadd hx hb dX3_add_16 ?_
      refine lv_aload_n hx hb dX3_add_17 rfl (lv_at hl 1 rfl) ?_
      obtain ⟨p_3, hp_3⟩ := cget_7 cI cZ cP cF q S
      have hi_3 : cin S 7 0 := Or.inl ⟨by decide, rfl⟩
      refine va_get (D := D) (ci := 3) (v := .ref (q 8 0)) (C := RX3) (T := TX3) (N := 3) hx hb hts (fun _ h => List.mem_cons_of_mem _ (List.mem_append_right _ h)) hown hK hP p_3 hp_3 rfl 0 (by decide) (hts (.fieldLink RX3 9 "TemplateForge$Draft" "cells" "[I") (List.mem_of_getElem? (i := 2) rfl)) (fun _ h9 => h9) rfl dX3_add_18 ?_
      obtain ⟨p_4, hp_4⟩ := cget_8 cI cZ cP cF q S
      have hi_4 : cin S 8 0 := Or.inl ⟨by decide, rfl⟩
      refine va_alen hx hb hK hP p_4 0 hp_4 rfl (v := 7555) rfl dX3_add_21 ?_
      refine lv_icmp_le (tgt := 26) hx hb dX3_add_22 (by decide) (fun c_5 => ?_) (fun c_5 => ?_)
      · have h := h.1 c_5
        refine lv_aload_n hx hb dX3_add_26 rfl (lv_at hl 1 rfl) ?_
        obtain ⟨p_6, hp_6⟩ := cget_7 cI cZ cP cF q S
        have hi_6 : cin S 7 0 := Or.inl ⟨by decide, rfl⟩
        refine va_get (D := D) (ci := 3) (v := .ref (q 8 0)) (C := RX3) (T := TX3) (N := 3) hx hb hts (fun _ h => List.mem_cons_of_mem _ (List.mem_append_right _ h)) hown hK hP p_6 hp_6 rfl 0 (by decide) (hts (.fieldLink RX3 9 "TemplateForge$Draft" "cells" "[I") (List.mem_of_getElem? (i := 2) rfl)) (fun _ h9 => h9) rfl dX3_add_27 ?_
        refine lv_iload hx hb dX3_add_30 (lv_at hl 0 rfl) ?_
        refine lv_iload_n hx hb dX3_add_32 rfl (lv_at hl 2 rfl) ?_
        obtain ⟨p_7, hp_7⟩ := cget_8 cI cZ cP cF q S
        have hi_7 : cin S 8 0 := Or.inl ⟨by decide, rfl⟩
        have hin_7 := h.1
        have h := h.2
        have hD0_7 := hD
        refine va_iast hx hb hK hP hD hS p_7 0 hp_7 rfl hin_7 dX3_add_33 (fun H locs hP hD hS => ?_)
        obtain ⟨S8, eS8⟩ : ∃ z, z = cs S 80 0 (upd (cv S 80 0) (5 * (cv S 72 0 0) : Int32).toNatClampNeg a1) := ⟨_, rfl⟩
        have hP : va_P D vwCl (cW cI cZ cP cF q S8) H := by rw [eS8, ← cW_put (k := 80) (κ := 8) (i := 0) (g := (upd (cv S 80 0) (5 * (cv S 72 0 0) : Int32).toNatClampNeg a1)) rfl hD0_7 hp_7 hi_7, cput_80]; exact hP
        have hD : va_D A (cW cI cZ cP cF q S8) := by rw [eS8, ← cW_put (k := 80) (κ := 8) (i := 0) (g := (upd (cv S 80 0) (5 * (cv S 72 0 0) : Int32).toNatClampNeg a1)) rfl hD0_7 hp_7 hi_7, cput_80]; exact hD
        have hN : S8.2 = S.2 := by rw [eS8]; exact hN
        have h := h S8 eS8
        refine lv_aload_n hx hb dX3_add_34 rfl (lv_at hl 1 rfl) ?_
        obtain ⟨p_9, hp_9⟩ := cget_7 cI cZ cP cF q S8
        have hi_9 : cin S8 7 0 := Or.inl ⟨by decide, rfl⟩
        refine va_get (D := D) (ci := 3) (v := .ref (q 8 0)) (C := RX3) (T := TX3) (N := 3) hx hb hts (fun _ h => List.mem_cons_of_mem _ (List.mem_append_right _ h)) hown hK hP p_9 hp_9 rfl 0 (by decide) (hts (.fieldLink RX3 9 "TemplateForge$Draft" "cells" "[I") (List.mem_of_getElem? (i := 2) rfl)) (fun _ h9 => h9) rfl dX3_add_35 ?_
        refine lv_iload hx hb dX3_add_38 (lv_at hl 0 rfl) ?_
        refine lv_iconst (v := 1) hx hb dX3_add_40 (by decide) ?_
        refine lv_iadd hx hb dX3_add_41 ?_
        refine lv_iload_n hx hb dX3_add_42 rfl (lv_at hl 3 rfl) ?_
        obtain ⟨p_10, hp_10⟩ := cget_8 cI cZ cP cF q S8
        have hi_10 : cin S8 8 0 := Or.inl ⟨by decide, rfl⟩
        have hin_10 := h.1
        have h := h.2
        have hD0_10 := hD
        refine va_iast hx hb hK hP hD hS p_10 0 hp_10 rfl hin_10 dX3_add_43 (fun H locs hP hD hS => ?_)
        obtain ⟨S11, eS11⟩ : ∃ z, z = cs S8 80 0 (upd (cv S8 80 0) ((5 * (cv S 72 0 0)) + 1 : Int32).toNatClampNeg a2) := ⟨_, rfl⟩
        have hP : va_P D vwCl (cW cI cZ cP cF q S11) H := by rw [eS11, ← cW_put (k := 80) (κ := 8) (i := 0) (g := (upd (cv S8 80 0) ((5 * (cv S 72 0 0)) + 1 : Int32).toNatClampNeg a2)) rfl hD0_10 hp_10 hi_10, cput_80]; exact hP
        have hD : va_D A (cW cI cZ cP cF q S11) := by rw [eS11, ← cW_put (k := 80) (κ := 8) (i := 0) (g := (upd (cv S8 80 0) ((5 * (cv S 72 0 0)) + 1 : Int32).toNatClampNeg a2)) rfl hD0_10 hp_10 hi_10, cput_80]; exact hD
        have hN : S11.2 = S.2 := by rw [eS11]; exact hN
        have h := h S11 eS11
        refine lv_aload_n hx hb dX3_add_44 rfl (lv_at hl 1 rfl) ?_
        obtain ⟨p_12, hp_12⟩ := cget_7 cI cZ cP cF q S11
        have hi_12 : cin S11 7 0 := Or.inl ⟨by decide, rfl⟩
        refine va_get (D := D) (ci := 3) (v := .ref (q 8 0)) (C := RX3) (T := TX3) (N := 3) hx hb hts (fun _ h => List.mem_cons_of_mem _ (List.mem_append_right _ h)) hown hK hP p_12 hp_12 rfl 0 (by decide) (hts (.fieldLink RX3 9 "TemplateForge$Draft" "cells" "[I") (List.mem_of_getElem? (i := 2) rfl)) (fun _ h9 => h9) rfl dX3_add_45 ?_
        refine lv_iload hx hb dX3_add_48 (lv_at hl 0 rfl) ?_
        refine lv_iconst (v := 2) hx hb dX3_add_50 (by decide) ?_
        refine lv_iadd hx hb dX3_add_51 ?_
        refine lv_iload_n hx hb dX3_add_52 rfl (lv_at hl 4 rfl) ?_
        obtain ⟨p_13, hp_13⟩ := cget_8 cI cZ cP cF q S11
        have hi_13 : cin S11 8 0 := Or.inl ⟨by decide, rfl⟩
        have hin_13 := h.1
        have h := h.2
        have hD0_13 := hD
        refine va_iast hx hb hK hP hD hS p_13 0 hp_13 rfl hin_13 dX3_add_53 (fun H locs hP hD hS => ?_)
        obtain ⟨S14, eS14⟩ : ∃ z, z = cs S11 80 0 (upd (cv S11 80 0) ((5 * (cv S 72 0 0)) + 2 : Int32).toNatClampNeg a3) := ⟨_, rfl⟩
        have hP : va_P D vwCl (cW cI cZ cP cF q S14) H := by rw [eS14, ← cW_put (k := 80) (κ := 8) (i := 0) (g := (upd (cv S11 80 0) ((5 * (cv S 72 0 0)) + 2 : Int32).toNatClampNeg a3)) rfl hD0_13 hp_13 hi_13, cput_80]; exact hP
        have hD : va_D A (cW cI cZ cP cF q S14) := by rw [eS14, ← cW_put (k := 80) (κ := 8) (i := 0) (g := (upd (cv S11 80 0) ((5 * (cv S 72 0 0)) + 2 : Int32).toNatClampNeg a3)) rfl hD0_13 hp_13 hi_13, cput_80]; exact hD
        have hN : S14.2 = S.2 := by rw [eS14]; exact hN
        have h := h S14 eS14
        refine lv_aload_n hx hb dX3_add_54 rfl (lv_at hl 1 rfl) ?_
        obtain ⟨p_15, hp_15⟩ := cget_7 cI cZ cP cF q S14
        have hi_15 : cin S14 7 0 := Or.inl ⟨by decide, rfl⟩
        refine va_get (D := D) (ci := 3) (v := .ref (q 8 0)) (C := RX3) (T := TX3) (N := 3) hx hb hts (fun _ h => List.mem_cons_of_mem _ (List.mem_append_right _ h)) hown hK hP p_15 hp_15 rfl 0 (by decide) (hts (.fieldLink RX3 9 "TemplateForge$Draft" "cells" "[I") (List.mem_of_getElem? (i := 2) rfl)) (fun _ h9 => h9) rfl dX3_add_55 ?_
        refine lv_iload hx hb dX3_add_58 (lv_at hl 0 rfl) ?_
        refine lv_iconst (v := 3) hx hb dX3_add_60 (by decide) ?_
        refine lv_iadd hx hb dX3_add_61 ?_
        refine lv_iload hx hb dX3_add_62 (lv_at hl 5 rfl) ?_
        obtain ⟨p_16, hp_16⟩ := cget_8 cI cZ cP cF q S14
        have hi_16 : cin S14 8 0 := Or.inl ⟨by decide, rfl⟩
        have hin_16 := h.1
        have h := h.2
        have hD0_16 := hD
        refine va_iast hx hb hK hP hD hS p_16 0 hp_16 rfl hin_16 dX3_add_64 (fun H locs hP hD hS => ?_)
        obtain ⟨S17, eS17⟩ : ∃ z, z = cs S14 80 0 (upd (cv S14 80 0) ((5 * (cv S 72 0 0)) + 3 : Int32).toNatClampNeg a4) := ⟨_, rfl⟩
        have hP : va_P D vwCl (cW cI cZ cP cF q S17) H := by rw [eS17, ← cW_put (k := 80) (κ := 8) (i := 0) (g := (upd (cv S14 80 0) ((5 * (cv S 72 0 0)) + 3 : Int32).toNatClampNeg a4)) rfl hD0_16 hp_16 hi_16, cput_80]; exact hP
        have hD : va_D A (cW cI cZ cP cF q S17) := by rw [eS17, ← cW_put (k := 80) (κ := 8) (i := 0) (g := (upd (cv S14 80 0) ((5 * (cv S 72 0 0)) + 3 : Int32).toNatClampNeg a4)) rfl hD0_16 hp_16 hi_16, cput_80]; exact hD
        have hN : S17.2 = S.2 := by rw [eS17]; exact hN
        have h := h S17 eS17
        refine lv_aload_n hx hb dX3_add_65 rfl (lv_at hl 1 rfl) ?_
        obtain ⟨p_18, hp_18⟩ := cget_7 cI cZ cP cF q S17
        have hi_18 : cin S17 7 0 := Or.inl ⟨by decide, rfl⟩
        refine va_get (D := D) (ci := 3) (v := .ref (q 8 0)) (C := RX3) (T := TX3) (N := 3) hx hb hts (fun _ h => List.mem_cons_of_mem _ (List.mem_append_right _ h)) hown hK hP p_18 hp_18 rfl 0 (by decide) (hts (.fieldLink RX3 9 "TemplateForge$Draft" "cells" "[I") (List.mem_of_getElem? (i := 2) rfl)) (fun _ h9 => h9) rfl dX3_add_66 ?_
        refine lv_iload hx hb dX3_add_69 (lv_at hl 0 rfl) ?_
        refine lv_iconst (v := 4) hx hb dX3_add_71 (by decide) ?_
        refine lv_iadd hx hb dX3_add_72 ?_
        refine lv_iload hx hb dX3_add_73 (lv_at hl 6 rfl) ?_
        obtain ⟨p_19, hp_19⟩ := cget_8 cI cZ cP cF q S17
        have hi_19 : cin S17 8 0 := Or.inl ⟨by decide, rfl⟩
        have hin_19 := h.1
        have h := h.2
        have hD0_19 := hD
        refine va_iast hx hb hK hP hD hS p_19 0 hp_19 rfl hin_19 dX3_add_75 (fun H locs hP hD hS => ?_)
        obtain ⟨S20, eS20⟩ : ∃ z, z = cs S17 80 0 (upd (cv S17 80 0) ((5 * (cv S 72 0 0)) + 4 : Int32).toNatClampNeg a5) := ⟨_, rfl⟩
        have hP : va_P D vwCl (cW cI cZ cP cF q S20) H := by rw [eS20, ← cW_put (k := 80) (κ := 8) (i := 0) (g := (upd (cv S17 80 0) ((5 * (cv S 72 0 0)) + 4 : Int32).toNatClampNeg a5)) rfl hD0_19 hp_19 hi_19, cput_80]; exact hP
        have hD : va_D A (cW cI cZ cP cF q S20) := by rw [eS20, ← cW_put (k := 80) (κ := 8) (i := 0) (g := (upd (cv S17 80 0) ((5 * (cv S 72 0 0)) + 4 : Int32).toNatClampNeg a5)) rfl hD0_19 hp_19 hi_19, cput_80]; exact hD
        have hN : S20.2 = S.2 := by rw [eS20]; exact hN
        have h := h S20 eS20
        refine lv_aload_n hx hb dX3_add_76 rfl (lv_at hl 1 rfl) ?_
        refine lv_dup hx hb dX3_add_77 rfl ?_
        obtain ⟨p_21, hp_21⟩ := cget_7 cI cZ cP cF q S20
        have hi_21 : cin S20 7 0 := Or.inl ⟨by decide, rfl⟩
        refine va_get (D := D) (ci := 3) (v := .int (cv S20 72 0 0)) (C := RX3) (T := TX3) (N := 3) hx hb hts (fun _ h => List.mem_cons_of_mem _ (List.mem_append_right _ h)) hown hK hP p_21 hp_21 rfl 2 (by decide) (hts (.fieldLink RX3 18 "TemplateForge$Draft" "parts" "I") (List.mem_of_getElem? (i := 1) rfl)) (fun _ h9 => h9) rfl dX3_add_78 ?_
        refine lv_iconst (v := 1) hx hb dX3_add_81 (by decide) ?_
        refine lv_iadd hx hb dX3_add_82 ?_
        obtain ⟨p_22, hp_22⟩ := cget_7 cI cZ cP cF q S20
        have hi_22 : cin S20 7 0 := Or.inl ⟨by decide, rfl⟩
        have hD0_22 := hD
        refine va_put (D := D) (ci := 3) (v := .int ((cv S20 72 0 0) + 1)) (ty := .int) (C := RX3) (T := TX3) (N := 3) hx hb hts (fun _ h => List.mem_cons_of_mem _ (List.mem_append_right _ h)) tyX3 tyX3_ok nmX3 hown hK hP hD hS p_22 hp_22 rfl 2 (by decide) (hts (.fieldLink RX3 18 "TemplateForge$Draft" "parts" "I") (List.mem_of_getElem? (i := 1) rfl)) (fun _ h9 => h9) rfl (by decide +kernel) rfl rfl (Nat.le_of_ble_eq_true rfl) dX3_add_83 (fun H locs hP hD hS => ?_)
        obtain ⟨S23, eS23⟩ : ∃ z, z = cs S20 72 0 (fun _ => (cv S20 72 0 0) + 1) := ⟨_, rfl⟩
        have hP : va_P D vwCl (cW cI cZ cP cF q S23) H := by rw [eS23, ← cW_put (k := 72) (κ := 7) (i := 0) (g := (fun _ => (cv S20 72 0 0) + 1)) rfl hD0_22 hp_22 hi_22, cput_72]; exact hP
        have hD : va_D A (cW cI cZ cP cF q S23) := by rw [eS23, ← cW_put (k := 72) (κ := 7) (i := 0) (g := (fun _ => (cv S20 72 0 0) + 1)) rfl hD0_22 hp_22 hi_22, cput_72]; exact hD
        have hN : S23.2 = S.2 := by rw [eS23]; exact hN
        have h := h S23 eS23
        exact W.vret hx hb hr (fun t ht hW => ⟨⟨S23, rfl, h, by rw [ht]; exact hP, hD, hN⟩, hS.F ht⟩) hS.2.2 dX3_add_86
      · have h := h.2 c_5
        exact W.vret hx hb hr (fun t ht hW => ⟨⟨S, rfl, h, by rw [ht]; exact hP, hD, hN⟩, hS.F ht⟩) hS.2.2 dX3_add_25
  exact key _ _ hP va_S.rf

def wp_X8_isRight (S : CST) (i : Nat) (Post : Int32 → Prop) : Prop :=
  cin S 24 i ∧ (((((cv S 248 i 0) : Int32) = (-1)) → (Post 0)) ∧ ((¬ (((cv S 248 i 0) : Int32) = (-1))) → (Post 1)))
def zw_zd_X8_isRight_w0 : List Cond := [.fieldLink RX8 28 "TemplateForge$Program" "deepest" "I"]
def zw_zd_X8_isRight : List Cond := .code yX8_isRight cX8_isRight 1 (some .boolean) :: ((zw_zd_X8_isRight_w0) ++ wsX80)
set_option maxHeartbeats 16000000 in
set_option maxRecDepth 100000 in
theorem zd_X8_isRight (l : Launch) (D : va_G) (cI cZ cP cF : Nat) (q : Nat → Nat → Nat) (S : CST) (i : Nat) (Post : Int32 → Prop) (h : wp_X8_isRight S i Post) : Met l yX8_isRight zw_zd_X8_isRight ({ frames := 0, cells := 0, slots := 0, locals := 0 }) (va_Pc [.ref (q 24 i)] (fun U => va_P D vwCl (cW cI cZ cP cF q S) U.heap ∧ zF D cI cZ cP cF U)) (vp_Si Post) 0 0 (fun _ => False) := by
  unfold wp_X8_isRight at h
  refine Met.ofW (cc := cX8_isRight) (maxL := 1) (ret := (some .boolean)) (by decide) rfl ?_
  intro p e s m args below meth c s₁ B hml hv
  obtain ⟨rfl, hP, hE⟩ := hv
  have hx := B.exec
  have hb := B.bytes
  have hr := B.returns
  have hts := atoms_spec (ws := zw_zd_X8_isRight) B.pre
  have hown : s.vm.findClass RX8 = some m.cls := findClass_of_methodNamed B.named
  have hlocks := B.notSynchronized
  have hK := hE.k
  have hl := lv_entry ([.ref (q 24 i)]) (n := 1) (Nat.le_of_ble_eq_true rfl)
  rw [lg_entry_eq]
  generalize (lg_sl ([.ref (q 24 i)]) ++ List.replicate (1 - (lg_sl ([.ref (q 24 i)])).length) Slot.unset).toArray = ls at hl ⊢
  have hl : lv_has ls 1 [(0, .ref (q 24 i))] := hl
  refine lv_aload_n hx hb dX8_isRight_0 rfl (lv_at hl 0 rfl) ?_
  have hi_1 := h.1
  have h := h.2
  obtain ⟨p_1, hp_1⟩ := cget_24 cI cZ cP cF q S hi_1
  refine va_get (D := D) (ci := 8) (v := .int (cv S 248 i 0)) (C := RX8) (T := TX8) (N := 10) hx hb hts (fun _ h => List.mem_cons_of_mem _ (List.mem_append_right _ h)) hown hK hP p_1 hp_1 rfl 8 (by decide) (hts (.fieldLink RX8 28 "TemplateForge$Program" "deepest" "I") (List.mem_of_getElem? (i := 1) rfl)) (fun _ h9 => h9) rfl dX8_isRight_1 ?_
  refine lv_iconst (v := (-1)) hx hb dX8_isRight_4 (by decide) ?_
  refine lv_icmp_eq (tgt := 12) hx hb dX8_isRight_5 (by decide) (fun c_2 => ?_) (fun c_2 => ?_)
  · have h := h.1 c_2
    refine lv_iconst (v := 0) hx hb dX8_isRight_12 (by decide) ?_
    exact W.zret (v := 0) (ty := .boolean) hx hb hr (by decide) (fun t ht hW => ⟨_, rfl, h, ht⟩) (fun q h => by cases h) dX8_isRight_13
  · have h := h.2 c_2
    refine lv_iconst (v := 1) hx hb dX8_isRight_8 (by decide) ?_
    refine lv_goto (tgt := 13) hx hb dX8_isRight_9 (by decide) ?_
    exact W.zret (v := 1) (ty := .boolean) hx hb hr (by decide) (fun t ht hW => ⟨_, rfl, h, ht⟩) (fun q h => by cases h) dX8_isRight_13

def wp_X8_append (S : CST) (i : Nat) (a1 : Int32) (a2 : Int32) (Post : CST → Int32 → Prop) : Prop :=
  cin S 24 i ∧ (((((cv S 247 i 0) : Int32) < 60) → (cin S 24 i ∧ (cin S 24 i ∧ (cin S 25 i ∧ vp_in (cv S 247 i 0) 60 ∧ (∀ S6 : CST, S6 = cs S 250 i (upd (cv S 250 i) (cv S 247 i 0 : Int32).toNatClampNeg a1) → (cin S6 24 i ∧ (cin S6 24 i ∧ (cin S6 26 i ∧ vp_in (cv S6 247 i 0) 60 ∧ (∀ S10 : CST, S10 = cs S6 260 i (upd (cv S6 260 i) (cv S6 247 i 0 : Int32).toNatClampNeg a2) → (cin S10 24 i ∧ (cin S10 24 i ∧ (∀ S13 : CST, S13 = cs S10 247 i (fun _ => (cv S10 247 i 0) + 1) → (cin S13 24 i ∧ (Post S13 ((cv S13 247 i 0) - 1))))))))))))))) ∧ ((¬ (((cv S 247 i 0) : Int32) < 60)) → (Post S (-4))))
def zw_zd_X8_append_w0 : List Cond := [.fieldLink RX8 41 "TemplateForge$Program" "length" "I", .fieldLink RX8 18 "TemplateForge$Program" "ops" "[I", .fieldLink RX8 22 "TemplateForge$Program" "xs" "[I"]
def zw_zd_X8_append : List Cond := .code yX8_append cX8_append 3 (some .int) :: ((zw_zd_X8_append_w0) ++ wsX80)
set_option maxHeartbeats 16000000 in
set_option maxRecDepth 100000 in
theorem zd_X8_append (l : Launch) (D : va_G) (cI cZ cP cF : Nat) (q : Nat → Nat → Nat) (S : CST) (i : Nat) (a1 : Int32) (a2 : Int32) (sz : Nat) (Post : CST → Int32 → Prop) (h : wp_X8_append S i a1 a2 Post) : Met l yX8_append zw_zd_X8_append ({ frames := 0, cells := 0, slots := 0, locals := 0 }) (va_Pc [.ref (q 24 i), .int a1, .int a2] (fun U => U.heap.size = sz ∧ va_P D vwCl (cW cI cZ cP cF q S) U.heap ∧ zF D cI cZ cP cF U ∧ va_D (fun _ => True) (cW cI cZ cP cF q S))) (va_Qi (fun r S' => Post S' r) (fun (S' : CST) t => va_P D vwCl (cW cI cZ cP cF q S') t.heap ∧ va_D (va_A (cW cI cZ cP cF q S) sz) (cW cI cZ cP cF q S') ∧ S'.2 = S.2) (va_A (cW cI cZ cP cF q S) sz)) 0 0 (va_A (cW cI cZ cP cF q S) sz) := by
  unfold wp_X8_append at h
  refine Met.ofW (cc := cX8_append) (maxL := 3) (ret := (some .int)) (by decide) rfl ?_
  intro p e s m args below meth c s₁ B hml hv
  obtain ⟨rfl, hsz, hP, hE, hD0⟩ := hv
  have hx := B.exec
  have hb := B.bytes
  have hr := B.returns
  have hts := atoms_spec (ws := zw_zd_X8_append) B.pre
  have hown : s.vm.findClass RX8 = some m.cls := findClass_of_methodNamed B.named
  have hlocks := B.notSynchronized
  have hK := hE.k
  subst hsz
  have hD := hD0.self (sz := s.heap.size)
  generalize hAe : va_A (cW cI cZ cP cF q S) s.heap.size = A at hD ⊢
  have hA : ∀ q : Nat, s.heap.size ≤ q → A q := fun q h => by rw [← hAe]; exact Or.inr h
  have hN : S.2 = S.2 := rfl
  have hl := lv_entry ([.ref (q 24 i), .int a1, .int a2]) (n := 3) (Nat.le_of_ble_eq_true rfl)
  rw [lg_entry_eq]
  generalize (lg_sl ([.ref (q 24 i), .int a1, .int a2]) ++ List.replicate (3 - (lg_sl ([.ref (q 24 i), .int a1, .int a2])).length) Slot.unset).toArray = ls at hl ⊢
  have hl : lv_has ls 3 [(0, .ref (q 24 i)), (1, .int a1), (2, .int a2)] := hl
  have key : ∀ (H : Heap) (locs : List Loc), va_P D vwCl (cW cI cZ cP cF q S) H → va_S A s.heap H locs → W p l e (headSpec zw_zd_X8_append ({ frames := 0, cells := 0, slots := 0, locals := 0 })).room s m ([.ref (q 24 i), .int a1, .int a2] : List Value).toArray below meth c H locs 0 0 (MQ below (va_Qi (fun r S' => Post S' r) (fun (S' : CST) t => va_P D vwCl (cW cI cZ cP cF q S') t.heap ∧ va_D A (cW cI cZ cP cF q S') ∧ S'.2 = S.2) A) ([.ref (q 24 i), .int a1, .int a2] : List Value).toArray s 0 0 A) (F0 m 0 ls []) := by
    intro H locs hP hS
    refine lv_aload_n hx hb dX8_append_0 rfl (lv_at hl 0 rfl) ?_
    have hi_1 := h.1
    have h := h.2
    obtain ⟨p_1, hp_1⟩ := cget_24 cI cZ cP cF q S hi_1
    refine va_get (D := D) (ci := 8) (v := .int (cv S 247 i 0)) (C := RX8) (T := TX8) (N := 10) hx hb hts (fun _ h => List.mem_cons_of_mem _ (List.mem_append_right _ h)) hown hK hP p_1 hp_1 rfl 7 (by decide) (hts (.fieldLink RX8 41 "TemplateForge$Program" "length" "I") (List.mem_of_getElem? (i := 1) rfl)) (fun _ h9 => h9) rfl dX8_append_1 ?_
    refine lv_bipush (v := 60) hx hb dX8_append_4 (by decide) ?_
    refine lv_icmp_lt (tgt := 12) hx hb dX8_append_6 (by decide) (fun c_2 => ?_) (fun c_2 => ?_)
    · have h := h.1 c_2
      refine lv_aload_n hx hb dX8_append_12 rfl (lv_at hl 0 rfl) ?_
      have hi_3 := h.1
      have h := h.2
      obtain ⟨p_3, hp_3⟩ := cget_24 cI cZ cP cF q S hi_3
      refine va_get (D := D) (ci := 8) (v := .ref (q 25 i)) (C := RX8) (T := TX8) (N := 10) hx hb hts (fun _ h => List.mem_cons_of_mem _ (List.mem_append_right _ h)) hown hK hP p_3 hp_3 rfl 4 (by decide) (hts (.fieldLink RX8 18 "TemplateForge$Program" "ops" "[I") (List.mem_of_getElem? (i := 2) rfl)) (fun _ h9 => h9) rfl dX8_append_13 ?_
      refine lv_aload_n hx hb dX8_append_16 rfl (lv_at hl 0 rfl) ?_
      have hi_4 := h.1
      have h := h.2
      obtain ⟨p_4, hp_4⟩ := cget_24 cI cZ cP cF q S hi_4
      refine va_get (D := D) (ci := 8) (v := .int (cv S 247 i 0)) (C := RX8) (T := TX8) (N := 10) hx hb hts (fun _ h => List.mem_cons_of_mem _ (List.mem_append_right _ h)) hown hK hP p_4 hp_4 rfl 7 (by decide) (hts (.fieldLink RX8 41 "TemplateForge$Program" "length" "I") (List.mem_of_getElem? (i := 1) rfl)) (fun _ h9 => h9) rfl dX8_append_17 ?_
      refine lv_iload_n hx hb dX8_append_20 rfl (lv_at hl 1 rfl) ?_
      have hi_5 := h.1
      have h := h.2
      obtain ⟨p_5, hp_5⟩ := cget_25 cI cZ cP cF q S hi_5
      have hin_5 := h.1
      have h := h.2
      have hD0_5 := hD
      refine va_iast hx hb hK hP hD hS p_5 0 hp_5 rfl hin_5 dX8_append_21 (fun H locs hP hD hS => ?_)
      obtain ⟨S6, eS6⟩ : ∃ z, z = cs S 250 i (upd (cv S 250 i) (cv S 247 i 0 : Int32).toNatClampNeg a1) := ⟨_, rfl⟩
      have hP : va_P D vwCl (cW cI cZ cP cF q S6) H := by rw [eS6, ← cW_put (k := 250) (κ := 25) (i := i) (g := (upd (cv S 250 i) (cv S 247 i 0 : Int32).toNatClampNeg a1)) rfl hD0_5 hp_5 hi_5, cput_250]; exact hP
      have hD : va_D A (cW cI cZ cP cF q S6) := by rw [eS6, ← cW_put (k := 250) (κ := 25) (i := i) (g := (upd (cv S 250 i) (cv S 247 i 0 : Int32).toNatClampNeg a1)) rfl hD0_5 hp_5 hi_5, cput_250]; exact hD
      have hN : S6.2 = S.2 := by rw [eS6]; exact hN
      have h := h S6 eS6
      refine lv_aload_n hx hb dX8_append_22 rfl (lv_at hl 0 rfl) ?_
      have hi_7 := h.1
      have h := h.2
      obtain ⟨p_7, hp_7⟩ := cget_24 cI cZ cP cF q S6 hi_7
      refine va_get (D := D) (ci := 8) (v := .ref (q 26 i)) (C := RX8) (T := TX8) (N := 10) hx hb hts (fun _ h => List.mem_cons_of_mem _ (List.mem_append_right _ h)) hown hK hP p_7 hp_7 rfl 5 (by decide) (hts (.fieldLink RX8 22 "TemplateForge$Program" "xs" "[I") (List.mem_of_getElem? (i := 3) rfl)) (fun _ h9 => h9) rfl dX8_append_23 ?_
      refine lv_aload_n hx hb dX8_append_26 rfl (lv_at hl 0 rfl) ?_
      have hi_8 := h.1
      have h := h.2
      obtain ⟨p_8, hp_8⟩ := cget_24 cI cZ cP cF q S6 hi_8
      refine va_get (D := D) (ci := 8) (v := .int (cv S6 247 i 0)) (C := RX8) (T := TX8) (N := 10) hx hb hts (fun _ h => List.mem_cons_of_mem _ (List.mem_append_right _ h)) hown hK hP p_8 hp_8 rfl 7 (by decide) (hts (.fieldLink RX8 41 "TemplateForge$Program" "length" "I") (List.mem_of_getElem? (i := 1) rfl)) (fun _ h9 => h9) rfl dX8_append_27 ?_
      refine lv_iload_n hx hb dX8_append_30 rfl (lv_at hl 2 rfl) ?_
      have hi_9 := h.1
      have h := h.2
      obtain ⟨p_9, hp_9⟩ := cget_26 cI cZ cP cF q S6 hi_9
      have hin_9 := h.1
      have h := h.2
      have hD0_9 := hD
      refine va_iast hx hb hK hP hD hS p_9 0 hp_9 rfl hin_9 dX8_append_31 (fun H locs hP hD hS => ?_)
      obtain ⟨S10, eS10⟩ : ∃ z, z = cs S6 260 i (upd (cv S6 260 i) (cv S6 247 i 0 : Int32).toNatClampNeg a2) := ⟨_, rfl⟩
      have hP : va_P D vwCl (cW cI cZ cP cF q S10) H := by rw [eS10, ← cW_put (k := 260) (κ := 26) (i := i) (g := (upd (cv S6 260 i) (cv S6 247 i 0 : Int32).toNatClampNeg a2)) rfl hD0_9 hp_9 hi_9, cput_260]; exact hP
      have hD : va_D A (cW cI cZ cP cF q S10) := by rw [eS10, ← cW_put (k := 260) (κ := 26) (i := i) (g := (upd (cv S6 260 i) (cv S6 247 i 0 : Int32).toNatClampNeg a2)) rfl hD0_9 hp_9 hi_9, cput_260]; exact hD
      have hN : S10.2 = S.2 := by rw [eS10]; exact hN
      have h := h S10 eS10
      refine lv_aload_n hx hb dX8_append_32 rfl (lv_at hl 0 rfl) ?_
      refine lv_dup hx hb dX8_append_33 rfl ?_
      have hi_11 := h.1
      have h := h.2
      obtain ⟨p_11, hp_11⟩ := cget_24 cI cZ cP cF q S10 hi_11
      refine va_get (D := D) (ci := 8) (v := .int (cv S10 247 i 0)) (C := RX8) (T := TX8) (N := 10) hx hb hts (fun _ h => List.mem_cons_of_mem _ (List.mem_append_right _ h)) hown hK hP p_11 hp_11 rfl 7 (by decide) (hts (.fieldLink RX8 41 "TemplateForge$Program" "length" "I") (List.mem_of_getElem? (i := 1) rfl)) (fun _ h9 => h9) rfl dX8_append_34 ?_
      refine lv_iconst (v := 1) hx hb dX8_append_37 (by decide) ?_
      refine lv_iadd hx hb dX8_append_38 ?_
      have hi_12 := h.1
      have h := h.2
      obtain ⟨p_12, hp_12⟩ := cget_24 cI cZ cP cF q S10 hi_12
      have hD0_12 := hD
      refine va_put (D := D) (ci := 8) (v := .int ((cv S10 247 i 0) + 1)) (ty := .int) (C := RX8) (T := TX8) (N := 10) hx hb hts (fun _ h => List.mem_cons_of_mem _ (List.mem_append_right _ h)) tyX8 tyX8_ok nmX8 hown hK hP hD hS p_12 hp_12 rfl 7 (by decide) (hts (.fieldLink RX8 41 "TemplateForge$Program" "length" "I") (List.mem_of_getElem? (i := 1) rfl)) (fun _ h9 => h9) rfl (by decide +kernel) rfl rfl (Nat.le_of_ble_eq_true rfl) dX8_append_39 (fun H locs hP hD hS => ?_)
      obtain ⟨S13, eS13⟩ : ∃ z, z = cs S10 247 i (fun _ => (cv S10 247 i 0) + 1) := ⟨_, rfl⟩
      have hP : va_P D vwCl (cW cI cZ cP cF q S13) H := by rw [eS13, ← cW_put (k := 247) (κ := 24) (i := i) (g := (fun _ => (cv S10 247 i 0) + 1)) rfl hD0_12 hp_12 hi_12, cput_247]; exact hP
      have hD : va_D A (cW cI cZ cP cF q S13) := by rw [eS13, ← cW_put (k := 247) (κ := 24) (i := i) (g := (fun _ => (cv S10 247 i 0) + 1)) rfl hD0_12 hp_12 hi_12, cput_247]; exact hD
      have hN : S13.2 = S.2 := by rw [eS13]; exact hN
      have h := h S13 eS13
      refine lv_aload_n hx hb dX8_append_42 rfl (lv_at hl 0 rfl) ?_
      have hi_14 := h.1
      have h := h.2
      obtain ⟨p_14, hp_14⟩ := cget_24 cI cZ cP cF q S13 hi_14
      refine va_get (D := D) (ci := 8) (v := .int (cv S13 247 i 0)) (C := RX8) (T := TX8) (N := 10) hx hb hts (fun _ h => List.mem_cons_of_mem _ (List.mem_append_right _ h)) hown hK hP p_14 hp_14 rfl 7 (by decide) (hts (.fieldLink RX8 41 "TemplateForge$Program" "length" "I") (List.mem_of_getElem? (i := 1) rfl)) (fun _ h9 => h9) rfl dX8_append_43 ?_
      refine lv_iconst (v := 1) hx hb dX8_append_46 (by decide) ?_
      refine lv_isub hx hb dX8_append_47 ?_
      exact W.iret (v := (cv S13 247 i 0) - 1) hx hb hr (fun t ht hW => ⟨⟨_, S13, rfl, h, by rw [ht]; exact hP, hD, hN⟩, hS.F ht⟩) hS.2.2 dX8_append_48
    · have h := h.2 c_2
      refine lv_bipush (v := (-4)) hx hb dX8_append_9 (by decide) ?_
      exact W.iret (v := (-4)) hx hb hr (fun t ht hW => ⟨⟨_, S, rfl, h, by rw [ht]; exact hP, hD, hN⟩, hS.F ht⟩) hS.2.2 dX8_append_11
  exact key _ _ hP va_S.rf

def wp_X8_opAt (S : CST) (i : Nat) (a1 : Int32) (Post : Int32 → Prop) : Prop :=
  cin S 24 i ∧ (wp_X8_has S i a1 (fun r2 => (((r2 : Int32) = 0) → (Post (-1))) ∧ ((¬ ((r2 : Int32) = 0)) → (cin S 24 i ∧ (cin S 25 i ∧ vp_in a1 60 ∧ (Post (cv S 250 i (a1 : Int32).toNatClampNeg)))))))
def zw_zd_X8_opAt_w0 : List Cond := [.code yX8_has cX8_has 2 (some .boolean), .fieldLink RX8 41 "TemplateForge$Program" "length" "I", .methodLink RX8 44 yX8_has, .instanceMethod yX8_has, .selects RX8 yX8_has yX8_has, .initialized RX8, .fieldLink RX8 18 "TemplateForge$Program" "ops" "[I"]
def zw_zd_X8_opAt : List Cond := .code yX8_opAt cX8_opAt 2 (some .int) :: ((zw_zd_X8_opAt_w0) ++ wsX80)
set_option maxRecDepth 100000 in
theorem zg_zd_X8_opAt_zd_X8_has_44_a : GoodIn zw_zd_X8_opAt [.methodLink RX8 44 yX8_has, .instanceMethod yX8_has, .selects RX8 yX8_has yX8_has, .initialized RX8] := goodIn_r _ [3, 4, 5, 6] rfl (by decide +kernel)
set_option maxRecDepth 100000 in
theorem zg_zd_X8_opAt_zd_X8_has_44_c : GoodIn zw_zd_X8_opAt [.code yX8_has cX8_has 2 (some .boolean)] := goodIn_r _ [1] rfl (by decide +kernel)
set_option maxRecDepth 100000 in
theorem zg_zd_X8_opAt_zd_X8_has_44_0 : GoodIn zw_zd_X8_opAt zw_zd_X8_has_w0 := goodIn_r _ [2] rfl (by decide +kernel)
theorem zg_zd_X8_opAt_zd_X8_has_44 : GoodIn zw_zd_X8_opAt (wsV RX8 44 RX8 yX8_has zw_zd_X8_has) := goodIn_app zg_zd_X8_opAt_zd_X8_has_44_a (goodIn_ca (a := (zw_zd_X8_has_w0)) (show GoodIn zw_zd_X8_opAt (.code yX8_has cX8_has 2 (some .boolean) :: (zw_zd_X8_has_w0)) from goodIn_app zg_zd_X8_opAt_zd_X8_has_44_c (zg_zd_X8_opAt_zd_X8_has_44_0)) (fun w h => ⟨(fun _ h => List.mem_cons_of_mem _ (List.mem_append_right _ h)) w h, good_of_word (List.all_eq_true.mp zgw_X8 w h)⟩))
set_option maxHeartbeats 16000000 in
set_option maxRecDepth 100000 in
theorem zd_X8_opAt (l : Launch) (D : va_G) (cI cZ cP cF : Nat) (q : Nat → Nat → Nat) (S : CST) (i : Nat) (a1 : Int32) (Post : Int32 → Prop) (h : wp_X8_opAt S i a1 Post) : Met l yX8_opAt zw_zd_X8_opAt ({ frames := 1, cells := 0, slots := 0, locals := 21 }) (va_Pc [.ref (q 24 i), .int a1] (fun U => va_P D vwCl (cW cI cZ cP cF q S) U.heap ∧ zF D cI cZ cP cF U)) (vp_Si Post) 0 0 (fun _ => False) := by
  unfold wp_X8_opAt at h
  refine Met.ofW (cc := cX8_opAt) (maxL := 2) (ret := (some .int)) (by decide) rfl ?_
  intro p e s m args below meth c s₁ B hml hv
  obtain ⟨rfl, hP, hE⟩ := hv
  have hx := B.exec
  have hb := B.bytes
  have hr := B.returns
  have hts := atoms_spec (ws := zw_zd_X8_opAt) B.pre
  have hown : s.vm.findClass RX8 = some m.cls := findClass_of_methodNamed B.named
  have hlocks := B.notSynchronized
  have hK := hE.k
  have hl := lv_entry ([.ref (q 24 i), .int a1]) (n := 2) (Nat.le_of_ble_eq_true rfl)
  rw [lg_entry_eq]
  generalize (lg_sl ([.ref (q 24 i), .int a1]) ++ List.replicate (2 - (lg_sl ([.ref (q 24 i), .int a1])).length) Slot.unset).toArray = ls at hl ⊢
  have hl : lv_has ls 2 [(0, .ref (q 24 i)), (1, .int a1)] := hl
  refine lv_aload_n hx hb dX8_opAt_0 rfl (lv_at hl 0 rfl) ?_
  refine lv_iload_n hx hb dX8_opAt_1 rfl (lv_at hl 1 rfl) ?_
  have hi_1 := h.1
  have h := h.2
  obtain ⟨p_1, hp_1⟩ := cget_24 cI cZ cP cF q S hi_1
  refine vp_callSi (va_Run.run (va_runV (As := [.int a1]) (rest := []) ⟨hx, hb, hml, hown, hts⟩ (zd_X8_has l D cI cZ cP cF q S i a1  _ h) (cwV 1 hts zg_zd_X8_opAt_zd_X8_has_44 rfl rfl rfl (by decide +kernel) ⟨Nat.le_of_ble_eq_true rfl, Nat.le_of_ble_eq_true rfl⟩) ⟨zCR, va_recv hK hP (ci := 8) (q0 := p_1) rfl hp_1, fun U hU hW => ⟨rfl, by rw [hU]; exact hP, hE.warm hW⟩⟩ rfl rfl hl.1 rfl (lv_room (Nat.le_of_ble_eq_true rfl)) dX8_opAt_2 ⟨Nat.le_of_ble_eq_true rfl, Nat.le_of_ble_eq_true rfl⟩)) (fun r2 h => ?_)
  refine lv_if_eq (tgt := 17) hx hb dX8_opAt_5 (by decide) (fun c_3 => ?_) (fun c_3 => ?_)
  · have h := h.1 c_3
    refine lv_iconst (v := (-1)) hx hb dX8_opAt_17 (by decide) ?_
    exact W.iret (v := (-1)) hx hb hr (fun t ht hW => ⟨_, rfl, h, ht⟩) (fun q h => by cases h) dX8_opAt_18
  · have h := h.2 c_3
    refine lv_aload_n hx hb dX8_opAt_8 rfl (lv_at hl 0 rfl) ?_
    have hi_4 := h.1
    have h := h.2
    obtain ⟨p_4, hp_4⟩ := cget_24 cI cZ cP cF q S hi_4
    refine va_get (D := D) (ci := 8) (v := .ref (q 25 i)) (C := RX8) (T := TX8) (N := 10) hx hb hts (fun _ h => List.mem_cons_of_mem _ (List.mem_append_right _ h)) hown hK hP p_4 hp_4 rfl 4 (by decide) (hts (.fieldLink RX8 18 "TemplateForge$Program" "ops" "[I") (List.mem_of_getElem? (i := 7) rfl)) (fun _ h9 => h9) rfl dX8_opAt_9 ?_
    refine lv_iload_n hx hb dX8_opAt_12 rfl (lv_at hl 1 rfl) ?_
    have hi_5 := h.1
    have h := h.2
    obtain ⟨p_5, hp_5⟩ := cget_25 cI cZ cP cF q S hi_5
    have hin_5 := h.1
    have h := h.2
    refine va_iald hx hb hK hP p_5 0 hp_5 rfl hin_5 dX8_opAt_13 ?_
    refine lv_goto (tgt := 18) hx hb dX8_opAt_14 (by decide) ?_
    exact W.iret (v := cv S 250 i (a1 : Int32).toNatClampNeg) hx hb hr (fun t ht hW => ⟨_, rfl, h, ht⟩) (fun q h => by cases h) dX8_opAt_18

def wp_X8_xAt (S : CST) (i : Nat) (a1 : Int32) (Post : Int32 → Prop) : Prop :=
  cin S 24 i ∧ (wp_X8_has S i a1 (fun r2 => (((r2 : Int32) = 0) → (Post 0)) ∧ ((¬ ((r2 : Int32) = 0)) → (cin S 24 i ∧ (cin S 26 i ∧ vp_in a1 60 ∧ (Post (cv S 260 i (a1 : Int32).toNatClampNeg)))))))
def zw_zd_X8_xAt_w0 : List Cond := [.code yX8_has cX8_has 2 (some .boolean), .fieldLink RX8 41 "TemplateForge$Program" "length" "I", .methodLink RX8 44 yX8_has, .instanceMethod yX8_has, .selects RX8 yX8_has yX8_has, .initialized RX8, .fieldLink RX8 22 "TemplateForge$Program" "xs" "[I"]
def zw_zd_X8_xAt : List Cond := .code yX8_xAt cX8_xAt 2 (some .int) :: ((zw_zd_X8_xAt_w0) ++ wsX80)
set_option maxRecDepth 100000 in
theorem zg_zd_X8_xAt_zd_X8_has_44_a : GoodIn zw_zd_X8_xAt [.methodLink RX8 44 yX8_has, .instanceMethod yX8_has, .selects RX8 yX8_has yX8_has, .initialized RX8] := goodIn_r _ [3, 4, 5, 6] rfl (by decide +kernel)
set_option maxRecDepth 100000 in
theorem zg_zd_X8_xAt_zd_X8_has_44_c : GoodIn zw_zd_X8_xAt [.code yX8_has cX8_has 2 (some .boolean)] := goodIn_r _ [1] rfl (by decide +kernel)
set_option maxRecDepth 100000 in
theorem zg_zd_X8_xAt_zd_X8_has_44_0 : GoodIn zw_zd_X8_xAt zw_zd_X8_has_w0 := goodIn_r _ [2] rfl (by decide +kernel)
theorem zg_zd_X8_xAt_zd_X8_has_44 : GoodIn zw_zd_X8_xAt (wsV RX8 44 RX8 yX8_has zw_zd_X8_has) := goodIn_app zg_zd_X8_xAt_zd_X8_has_44_a (goodIn_ca (a := (zw_zd_X8_has_w0)) (show GoodIn zw_zd_X8_xAt (.code yX8_has cX8_has 2 (some .boolean) :: (zw_zd_X8_has_w0)) from goodIn_app zg_zd_X8_xAt_zd_X8_has_44_c (zg_zd_X8_xAt_zd_X8_has_44_0)) (fun w h => ⟨(fun _ h => List.mem_cons_of_mem _ (List.mem_append_right _ h)) w h, good_of_word (List.all_eq_true.mp zgw_X8 w h)⟩))
set_option maxHeartbeats 16000000 in
set_option maxRecDepth 100000 in
theorem zd_X8_xAt (l : Launch) (D : va_G) (cI cZ cP cF : Nat) (q : Nat → Nat → Nat) (S : CST) (i : Nat) (a1 : Int32) (Post : Int32 → Prop) (h : wp_X8_xAt S i a1 Post) : Met l yX8_xAt zw_zd_X8_xAt ({ frames := 1, cells := 0, slots := 0, locals := 21 }) (va_Pc [.ref (q 24 i), .int a1] (fun U => va_P D vwCl (cW cI cZ cP cF q S) U.heap ∧ zF D cI cZ cP cF U)) (vp_Si Post) 0 0 (fun _ => False) := by
  unfold wp_X8_xAt at h
  refine Met.ofW (cc := cX8_xAt) (maxL := 2) (ret := (some .int)) (by decide) rfl ?_
  intro p e s m args below meth c s₁ B hml hv
  obtain ⟨rfl, hP, hE⟩ := hv
  have hx := B.exec
  have hb := B.bytes
  have hr := B.returns
  have hts := atoms_spec (ws := zw_zd_X8_xAt) B.pre
  have hown : s.vm.findClass RX8 = some m.cls := findClass_of_methodNamed B.named
  have hlocks := B.notSynchronized
  have hK := hE.k
  have hl := lv_entry ([.ref (q 24 i), .int a1]) (n := 2) (Nat.le_of_ble_eq_true rfl)
  rw [lg_entry_eq]
  generalize (lg_sl ([.ref (q 24 i), .int a1]) ++ List.replicate (2 - (lg_sl ([.ref (q 24 i), .int a1])).length) Slot.unset).toArray = ls at hl ⊢
  have hl : lv_has ls 2 [(0, .ref (q 24 i)), (1, .int a1)] := hl
  refine lv_aload_n hx hb dX8_xAt_0 rfl (lv_at hl 0 rfl) ?_
  refine lv_iload_n hx hb dX8_xAt_1 rfl (lv_at hl 1 rfl) ?_
  have hi_1 := h.1
  have h := h.2
  obtain ⟨p_1, hp_1⟩ := cget_24 cI cZ cP cF q S hi_1
  refine vp_callSi (va_Run.run (va_runV (As := [.int a1]) (rest := []) ⟨hx, hb, hml, hown, hts⟩ (zd_X8_has l D cI cZ cP cF q S i a1  _ h) (cwV 1 hts zg_zd_X8_xAt_zd_X8_has_44 rfl rfl rfl (by decide +kernel) ⟨Nat.le_of_ble_eq_true rfl, Nat.le_of_ble_eq_true rfl⟩) ⟨zCR, va_recv hK hP (ci := 8) (q0 := p_1) rfl hp_1, fun U hU hW => ⟨rfl, by rw [hU]; exact hP, hE.warm hW⟩⟩ rfl rfl hl.1 rfl (lv_room (Nat.le_of_ble_eq_true rfl)) dX8_xAt_2 ⟨Nat.le_of_ble_eq_true rfl, Nat.le_of_ble_eq_true rfl⟩)) (fun r2 h => ?_)
  refine lv_if_eq (tgt := 17) hx hb dX8_xAt_5 (by decide) (fun c_3 => ?_) (fun c_3 => ?_)
  · have h := h.1 c_3
    refine lv_iconst (v := 0) hx hb dX8_xAt_17 (by decide) ?_
    exact W.iret (v := 0) hx hb hr (fun t ht hW => ⟨_, rfl, h, ht⟩) (fun q h => by cases h) dX8_xAt_18
  · have h := h.2 c_3
    refine lv_aload_n hx hb dX8_xAt_8 rfl (lv_at hl 0 rfl) ?_
    have hi_4 := h.1
    have h := h.2
    obtain ⟨p_4, hp_4⟩ := cget_24 cI cZ cP cF q S hi_4
    refine va_get (D := D) (ci := 8) (v := .ref (q 26 i)) (C := RX8) (T := TX8) (N := 10) hx hb hts (fun _ h => List.mem_cons_of_mem _ (List.mem_append_right _ h)) hown hK hP p_4 hp_4 rfl 5 (by decide) (hts (.fieldLink RX8 22 "TemplateForge$Program" "xs" "[I") (List.mem_of_getElem? (i := 7) rfl)) (fun _ h9 => h9) rfl dX8_xAt_9 ?_
    refine lv_iload_n hx hb dX8_xAt_12 rfl (lv_at hl 1 rfl) ?_
    have hi_5 := h.1
    have h := h.2
    obtain ⟨p_5, hp_5⟩ := cget_26 cI cZ cP cF q S hi_5
    have hin_5 := h.1
    have h := h.2
    refine va_iald hx hb hK hP p_5 0 hp_5 rfl hin_5 dX8_xAt_13 ?_
    refine lv_goto (tgt := 18) hx hb dX8_xAt_14 (by decide) ?_
    exact W.iret (v := cv S 260 i (a1 : Int32).toNatClampNeg) hx hb hr (fun t ht hW => ⟨_, rfl, h, ht⟩) (fun q h => by cases h) dX8_xAt_18

def wp_X8_depthAt (S : CST) (i : Nat) (a1 : Int32) (Post : Int32 → Prop) : Prop :=
  cin S 24 i ∧ (wp_X8_has S i a1 (fun r2 => (((r2 : Int32) = 0) → (Post (-1))) ∧ ((¬ ((r2 : Int32) = 0)) → (cin S 24 i ∧ (cin S 27 i ∧ vp_in a1 60 ∧ (Post (cv S 270 i (a1 : Int32).toNatClampNeg)))))))
def zw_zd_X8_depthAt_w0 : List Cond := [.code yX8_has cX8_has 2 (some .boolean), .fieldLink RX8 41 "TemplateForge$Program" "length" "I", .methodLink RX8 44 yX8_has, .instanceMethod yX8_has, .selects RX8 yX8_has yX8_has, .initialized RX8, .fieldLink RX8 25 "TemplateForge$Program" "depths" "[I"]
def zw_zd_X8_depthAt : List Cond := .code yX8_depthAt cX8_depthAt 2 (some .int) :: ((zw_zd_X8_depthAt_w0) ++ wsX80)
set_option maxRecDepth 100000 in
theorem zg_zd_X8_depthAt_zd_X8_has_44_a : GoodIn zw_zd_X8_depthAt [.methodLink RX8 44 yX8_has, .instanceMethod yX8_has, .selects RX8 yX8_has yX8_has, .initialized RX8] := goodIn_r _ [3, 4, 5, 6] rfl (by decide +kernel)
set_option maxRecDepth 100000 in
theorem zg_zd_X8_depthAt_zd_X8_has_44_c : GoodIn zw_zd_X8_depthAt [.code yX8_has cX8_has 2 (some .boolean)] := goodIn_r _ [1] rfl (by decide +kernel)
set_option maxRecDepth 100000 in
theorem zg_zd_X8_depthAt_zd_X8_has_44_0 : GoodIn zw_zd_X8_depthAt zw_zd_X8_has_w0 := goodIn_r _ [2] rfl (by decide +kernel)
theorem zg_zd_X8_depthAt_zd_X8_has_44 : GoodIn zw_zd_X8_depthAt (wsV RX8 44 RX8 yX8_has zw_zd_X8_has) := goodIn_app zg_zd_X8_depthAt_zd_X8_has_44_a (goodIn_ca (a := (zw_zd_X8_has_w0)) (show GoodIn zw_zd_X8_depthAt (.code yX8_has cX8_has 2 (some .boolean) :: (zw_zd_X8_has_w0)) from goodIn_app zg_zd_X8_depthAt_zd_X8_has_44_c (zg_zd_X8_depthAt_zd_X8_has_44_0)) (fun w h => ⟨(fun _ h => List.mem_cons_of_mem _ (List.mem_append_right _ h)) w h, good_of_word (List.all_eq_true.mp zgw_X8 w h)⟩))
set_option maxHeartbeats 16000000 in
set_option maxRecDepth 100000 in
theorem zd_X8_depthAt (l : Launch) (D : va_G) (cI cZ cP cF : Nat) (q : Nat → Nat → Nat) (S : CST) (i : Nat) (a1 : Int32) (Post : Int32 → Prop) (h : wp_X8_depthAt S i a1 Post) : Met l yX8_depthAt zw_zd_X8_depthAt ({ frames := 1, cells := 0, slots := 0, locals := 21 }) (va_Pc [.ref (q 24 i), .int a1] (fun U => va_P D vwCl (cW cI cZ cP cF q S) U.heap ∧ zF D cI cZ cP cF U)) (vp_Si Post) 0 0 (fun _ => False) := by
  unfold wp_X8_depthAt at h
  refine Met.ofW (cc := cX8_depthAt) (maxL := 2) (ret := (some .int)) (by decide) rfl ?_
  intro p e s m args below meth c s₁ B hml hv
  obtain ⟨rfl, hP, hE⟩ := hv
  have hx := B.exec
  have hb := B.bytes
  have hr := B.returns
  have hts := atoms_spec (ws := zw_zd_X8_depthAt) B.pre
  have hown : s.vm.findClass RX8 = some m.cls := findClass_of_methodNamed B.named
  have hlocks := B.notSynchronized
  have hK := hE.k
  have hl := lv_entry ([.ref (q 24 i), .int a1]) (n := 2) (Nat.le_of_ble_eq_true rfl)
  rw [lg_entry_eq]
  generalize (lg_sl ([.ref (q 24 i), .int a1]) ++ List.replicate (2 - (lg_sl ([.ref (q 24 i), .int a1])).length) Slot.unset).toArray = ls at hl ⊢
  have hl : lv_has ls 2 [(0, .ref (q 24 i)), (1, .int a1)] := hl
  refine lv_aload_n hx hb dX8_depthAt_0 rfl (lv_at hl 0 rfl) ?_
  refine lv_iload_n hx hb dX8_depthAt_1 rfl (lv_at hl 1 rfl) ?_
  have hi_1 := h.1
  have h := h.2
  obtain ⟨p_1, hp_1⟩ := cget_24 cI cZ cP cF q S hi_1
  refine vp_callSi (va_Run.run (va_runV (As := [.int a1]) (rest := []) ⟨hx, hb, hml, hown, hts⟩ (zd_X8_has l D cI cZ cP cF q S i a1  _ h) (cwV 1 hts zg_zd_X8_depthAt_zd_X8_has_44 rfl rfl rfl (by decide +kernel) ⟨Nat.le_of_ble_eq_true rfl, Nat.le_of_ble_eq_true rfl⟩) ⟨zCR, va_recv hK hP (ci := 8) (q0 := p_1) rfl hp_1, fun U hU hW => ⟨rfl, by rw [hU]; exact hP, hE.warm hW⟩⟩ rfl rfl hl.1 rfl (lv_room (Nat.le_of_ble_eq_true rfl)) dX8_depthAt_2 ⟨Nat.le_of_ble_eq_true rfl, Nat.le_of_ble_eq_true rfl⟩)) (fun r2 h => ?_)
  refine lv_if_eq (tgt := 17) hx hb dX8_depthAt_5 (by decide) (fun c_3 => ?_) (fun c_3 => ?_)
  · have h := h.1 c_3
    refine lv_iconst (v := (-1)) hx hb dX8_depthAt_17 (by decide) ?_
    exact W.iret (v := (-1)) hx hb hr (fun t ht hW => ⟨_, rfl, h, ht⟩) (fun q h => by cases h) dX8_depthAt_18
  · have h := h.2 c_3
    refine lv_aload_n hx hb dX8_depthAt_8 rfl (lv_at hl 0 rfl) ?_
    have hi_4 := h.1
    have h := h.2
    obtain ⟨p_4, hp_4⟩ := cget_24 cI cZ cP cF q S hi_4
    refine va_get (D := D) (ci := 8) (v := .ref (q 27 i)) (C := RX8) (T := TX8) (N := 10) hx hb hts (fun _ h => List.mem_cons_of_mem _ (List.mem_append_right _ h)) hown hK hP p_4 hp_4 rfl 6 (by decide) (hts (.fieldLink RX8 25 "TemplateForge$Program" "depths" "[I") (List.mem_of_getElem? (i := 7) rfl)) (fun _ h9 => h9) rfl dX8_depthAt_9 ?_
    refine lv_iload_n hx hb dX8_depthAt_12 rfl (lv_at hl 1 rfl) ?_
    have hi_5 := h.1
    have h := h.2
    obtain ⟨p_5, hp_5⟩ := cget_27 cI cZ cP cF q S hi_5
    have hin_5 := h.1
    have h := h.2
    refine va_iald hx hb hK hP p_5 0 hp_5 rfl hin_5 dX8_depthAt_13 ?_
    refine lv_goto (tgt := 18) hx hb dX8_depthAt_14 (by decide) ?_
    exact W.iret (v := cv S 270 i (a1 : Int32).toNatClampNeg) hx hb hr (fun t ht hW => ⟨_, rfl, h, ht⟩) (fun q h => by cases h) dX8_depthAt_18

def wp_X8_isDead (S : CST) (i : Nat) (a1 : Int32) (Post : Int32 → Prop) : Prop :=
  cin S 24 i ∧ (wp_X8_has S i a1 (fun r2 => (((r2 : Int32) = 0) → (Post 1)) ∧ ((¬ ((r2 : Int32) = 0)) → (cin S 24 i ∧ (cin S 27 i ∧ vp_in a1 60 ∧ (((¬ (((cv S 270 i (a1 : Int32).toNatClampNeg) : Int32) = (-1))) → (Post 0)) ∧ ((((cv S 270 i (a1 : Int32).toNatClampNeg) : Int32) = (-1)) → (Post 1))))))))
def zw_zd_X8_isDead_w0 : List Cond := [.code yX8_has cX8_has 2 (some .boolean), .fieldLink RX8 41 "TemplateForge$Program" "length" "I", .methodLink RX8 44 yX8_has, .instanceMethod yX8_has, .selects RX8 yX8_has yX8_has, .initialized RX8, .fieldLink RX8 25 "TemplateForge$Program" "depths" "[I"]
def zw_zd_X8_isDead : List Cond := .code yX8_isDead cX8_isDead 2 (some .boolean) :: ((zw_zd_X8_isDead_w0) ++ wsX80)
set_option maxRecDepth 100000 in
theorem zg_zd_X8_isDead_zd_X8_has_44_a : GoodIn zw_zd_X8_isDead [.methodLink RX8 44 yX8_has, .instanceMethod yX8_has, .selects RX8 yX8_has yX8_has, .initialized RX8] := goodIn_r _ [3, 4, 5, 6] rfl (by decide +kernel)
set_option maxRecDepth 100000 in
theorem zg_zd_X8_isDead_zd_X8_has_44_c : GoodIn zw_zd_X8_isDead [.code yX8_has cX8_has 2 (some .boolean)] := goodIn_r _ [1] rfl (by decide +kernel)
set_option maxRecDepth 100000 in
theorem zg_zd_X8_isDead_zd_X8_has_44_0 : GoodIn zw_zd_X8_isDead zw_zd_X8_has_w0 := goodIn_r _ [2] rfl (by decide +kernel)
theorem zg_zd_X8_isDead_zd_X8_has_44 : GoodIn zw_zd_X8_isDead (wsV RX8 44 RX8 yX8_has zw_zd_X8_has) := goodIn_app zg_zd_X8_isDead_zd_X8_has_44_a (goodIn_ca (a := (zw_zd_X8_has_w0)) (show GoodIn zw_zd_X8_isDead (.code yX8_has cX8_has 2 (some .boolean) :: (zw_zd_X8_has_w0)) from goodIn_app zg_zd_X8_isDead_zd_X8_has_44_c (zg_zd_X8_isDead_zd_X8_has_44_0)) (fun w h => ⟨(fun _ h => List.mem_cons_of_mem _ (List.mem_append_right _ h)) w h, good_of_word (List.all_eq_true.mp zgw_X8 w h)⟩))
set_option maxHeartbeats 16000000 in
set_option maxRecDepth 100000 in
theorem zd_X8_isDead (l : Launch) (D : va_G) (cI cZ cP cF : Nat) (q : Nat → Nat → Nat) (S : CST) (i : Nat) (a1 : Int32) (Post : Int32 → Prop) (h : wp_X8_isDead S i a1 Post) : Met l yX8_isDead zw_zd_X8_isDead ({ frames := 1, cells := 0, slots := 0, locals := 21 }) (va_Pc [.ref (q 24 i), .int a1] (fun U => va_P D vwCl (cW cI cZ cP cF q S) U.heap ∧ zF D cI cZ cP cF U)) (vp_Si Post) 0 0 (fun _ => False) := by
  unfold wp_X8_isDead at h
  refine Met.ofW (cc := cX8_isDead) (maxL := 2) (ret := (some .boolean)) (by decide) rfl ?_
  intro p e s m args below meth c s₁ B hml hv
  obtain ⟨rfl, hP, hE⟩ := hv
  have hx := B.exec
  have hb := B.bytes
  have hr := B.returns
  have hts := atoms_spec (ws := zw_zd_X8_isDead) B.pre
  have hown : s.vm.findClass RX8 = some m.cls := findClass_of_methodNamed B.named
  have hlocks := B.notSynchronized
  have hK := hE.k
  have hl := lv_entry ([.ref (q 24 i), .int a1]) (n := 2) (Nat.le_of_ble_eq_true rfl)
  rw [lg_entry_eq]
  generalize (lg_sl ([.ref (q 24 i), .int a1]) ++ List.replicate (2 - (lg_sl ([.ref (q 24 i), .int a1])).length) Slot.unset).toArray = ls at hl ⊢
  have hl : lv_has ls 2 [(0, .ref (q 24 i)), (1, .int a1)] := hl
  refine lv_aload_n hx hb dX8_isDead_0 rfl (lv_at hl 0 rfl) ?_
  refine lv_iload_n hx hb dX8_isDead_1 rfl (lv_at hl 1 rfl) ?_
  have hi_1 := h.1
  have h := h.2
  obtain ⟨p_1, hp_1⟩ := cget_24 cI cZ cP cF q S hi_1
  refine vp_callSi (va_Run.run (va_runV (As := [.int a1]) (rest := []) ⟨hx, hb, hml, hown, hts⟩ (zd_X8_has l D cI cZ cP cF q S i a1  _ h) (cwV 1 hts zg_zd_X8_isDead_zd_X8_has_44 rfl rfl rfl (by decide +kernel) ⟨Nat.le_of_ble_eq_true rfl, Nat.le_of_ble_eq_true rfl⟩) ⟨zCR, va_recv hK hP (ci := 8) (q0 := p_1) rfl hp_1, fun U hU hW => ⟨rfl, by rw [hU]; exact hP, hE.warm hW⟩⟩ rfl rfl hl.1 rfl (lv_room (Nat.le_of_ble_eq_true rfl)) dX8_isDead_2 ⟨Nat.le_of_ble_eq_true rfl, Nat.le_of_ble_eq_true rfl⟩)) (fun r2 h => ?_)
  refine lv_if_eq (tgt := 18) hx hb dX8_isDead_5 (by decide) (fun c_3 => ?_) (fun c_3 => ?_)
  · have h := h.1 c_3
    refine lv_iconst (v := 1) hx hb dX8_isDead_18 (by decide) ?_
    refine lv_goto (tgt := 23) hx hb dX8_isDead_19 (by decide) ?_
    exact W.zret (v := 1) (ty := .boolean) hx hb hr (by decide) (fun t ht hW => ⟨_, rfl, h, ht⟩) (fun q h => by cases h) dX8_isDead_23
  · have h := h.2 c_3
    refine lv_aload_n hx hb dX8_isDead_8 rfl (lv_at hl 0 rfl) ?_
    have hi_4 := h.1
    have h := h.2
    obtain ⟨p_4, hp_4⟩ := cget_24 cI cZ cP cF q S hi_4
    refine va_get (D := D) (ci := 8) (v := .ref (q 27 i)) (C := RX8) (T := TX8) (N := 10) hx hb hts (fun _ h => List.mem_cons_of_mem _ (List.mem_append_right _ h)) hown hK hP p_4 hp_4 rfl 6 (by decide) (hts (.fieldLink RX8 25 "TemplateForge$Program" "depths" "[I") (List.mem_of_getElem? (i := 7) rfl)) (fun _ h9 => h9) rfl dX8_isDead_9 ?_
    refine lv_iload_n hx hb dX8_isDead_12 rfl (lv_at hl 1 rfl) ?_
    have hi_5 := h.1
    have h := h.2
    obtain ⟨p_5, hp_5⟩ := cget_27 cI cZ cP cF q S hi_5
    have hin_5 := h.1
    have h := h.2
    refine va_iald hx hb hK hP p_5 0 hp_5 rfl hin_5 dX8_isDead_13 ?_
    refine lv_iconst (v := (-1)) hx hb dX8_isDead_14 (by decide) ?_
    refine lv_icmp_ne (tgt := 22) hx hb dX8_isDead_15 (by decide) (fun c_6 => ?_) (fun c_6 => ?_)
    · have h := h.1 c_6
      refine lv_iconst (v := 0) hx hb dX8_isDead_22 (by decide) ?_
      exact W.zret (v := 0) (ty := .boolean) hx hb hr (by decide) (fun t ht hW => ⟨_, rfl, h, ht⟩) (fun q h => by cases h) dX8_isDead_23
    · have h := h.2 c_6
      refine lv_iconst (v := 1) hx hb dX8_isDead_18 (by decide) ?_
      refine lv_goto (tgt := 23) hx hb dX8_isDead_19 (by decide) ?_
      exact W.zret (v := 1) (ty := .boolean) hx hb hr (by decide) (fun t ht hW => ⟨_, rfl, h, ht⟩) (fun q h => by cases h) dX8_isDead_23

def wp_X8_goesOnAt (S : CST) (i : Nat) (a1 : Int32) (Post : Int32 → Prop) : Prop :=
  cin S 24 i ∧ (wp_X8_opAt S i a1 (fun r2 => cin S 24 i ∧ (wp_X8_isDead S i a1 (fun r4 => ((¬ ((r4 : Int32) = 0)) → (Post 0)) ∧ (((r4 : Int32) = 0) → ((((r2 : Int32) = 9) → (Post 0)) ∧ ((¬ ((r2 : Int32) = 9)) → ((((r2 : Int32) = 12) → (Post 0)) ∧ ((¬ ((r2 : Int32) = 12)) → (Post 1))))))))))
def zw_zd_X8_goesOnAt_w0 : List Cond := [.code yX8_opAt cX8_opAt 2 (some .int), .code yX8_has cX8_has 2 (some .boolean), .fieldLink RX8 41 "TemplateForge$Program" "length" "I", .methodLink RX8 44 yX8_has, .instanceMethod yX8_has, .selects RX8 yX8_has yX8_has, .initialized RX8, .fieldLink RX8 18 "TemplateForge$Program" "ops" "[I", .methodLink RX8 48 yX8_opAt, .instanceMethod yX8_opAt, .selects RX8 yX8_opAt yX8_opAt, .code yX8_isDead cX8_isDead 2 (some .boolean), .fieldLink RX8 25 "TemplateForge$Program" "depths" "[I", .methodLink RX8 52 yX8_isDead, .instanceMethod yX8_isDead, .selects RX8 yX8_isDead yX8_isDead]
def zw_zd_X8_goesOnAt : List Cond := .code yX8_goesOnAt cX8_goesOnAt 3 (some .boolean) :: ((zw_zd_X8_goesOnAt_w0) ++ wsX80)
set_option maxRecDepth 100000 in
theorem zg_zd_X8_goesOnAt_zd_X8_opAt_48_a : GoodIn zw_zd_X8_goesOnAt [.methodLink RX8 48 yX8_opAt, .instanceMethod yX8_opAt, .selects RX8 yX8_opAt yX8_opAt, .initialized RX8] := goodIn_r _ [9, 10, 11, 7] rfl (by decide +kernel)
set_option maxRecDepth 100000 in
theorem zg_zd_X8_goesOnAt_zd_X8_opAt_48_c : GoodIn zw_zd_X8_goesOnAt [.code yX8_opAt cX8_opAt 2 (some .int)] := goodIn_r _ [1] rfl (by decide +kernel)
set_option maxRecDepth 100000 in
theorem zg_zd_X8_goesOnAt_zd_X8_opAt_48_0 : GoodIn zw_zd_X8_goesOnAt zw_zd_X8_opAt_w0 := goodIn_r _ [2, 3, 4, 5, 6, 7, 8] rfl (by decide +kernel)
theorem zg_zd_X8_goesOnAt_zd_X8_opAt_48 : GoodIn zw_zd_X8_goesOnAt (wsV RX8 48 RX8 yX8_opAt zw_zd_X8_opAt) := goodIn_app zg_zd_X8_goesOnAt_zd_X8_opAt_48_a (goodIn_ca (a := (zw_zd_X8_opAt_w0)) (show GoodIn zw_zd_X8_goesOnAt (.code yX8_opAt cX8_opAt 2 (some .int) :: (zw_zd_X8_opAt_w0)) from goodIn_app zg_zd_X8_goesOnAt_zd_X8_opAt_48_c (zg_zd_X8_goesOnAt_zd_X8_opAt_48_0)) (fun w h => ⟨(fun _ h => List.mem_cons_of_mem _ (List.mem_append_right _ h)) w h, good_of_word (List.all_eq_true.mp zgw_X8 w h)⟩))
set_option maxRecDepth 100000 in
theorem zg_zd_X8_goesOnAt_zd_X8_isDead_52_a : GoodIn zw_zd_X8_goesOnAt [.methodLink RX8 52 yX8_isDead, .instanceMethod yX8_isDead, .selects RX8 yX8_isDead yX8_isDead, .initialized RX8] := goodIn_r _ [14, 15, 16, 7] rfl (by decide +kernel)
set_option maxRecDepth 100000 in
theorem zg_zd_X8_goesOnAt_zd_X8_isDead_52_c : GoodIn zw_zd_X8_goesOnAt [.code yX8_isDead cX8_isDead 2 (some .boolean)] := goodIn_r _ [12] rfl (by decide +kernel)
set_option maxRecDepth 100000 in
theorem zg_zd_X8_goesOnAt_zd_X8_isDead_52_0 : GoodIn zw_zd_X8_goesOnAt zw_zd_X8_isDead_w0 := goodIn_r _ [2, 3, 4, 5, 6, 7, 13] rfl (by decide +kernel)
theorem zg_zd_X8_goesOnAt_zd_X8_isDead_52 : GoodIn zw_zd_X8_goesOnAt (wsV RX8 52 RX8 yX8_isDead zw_zd_X8_isDead) := goodIn_app zg_zd_X8_goesOnAt_zd_X8_isDead_52_a (goodIn_ca (a := (zw_zd_X8_isDead_w0)) (show GoodIn zw_zd_X8_goesOnAt (.code yX8_isDead cX8_isDead 2 (some .boolean) :: (zw_zd_X8_isDead_w0)) from goodIn_app zg_zd_X8_goesOnAt_zd_X8_isDead_52_c (zg_zd_X8_goesOnAt_zd_X8_isDead_52_0)) (fun w h => ⟨(fun _ h => List.mem_cons_of_mem _ (List.mem_append_right _ h)) w h, good_of_word (List.all_eq_true.mp zgw_X8 w h)⟩))
set_option maxHeartbeats 16000000 in
set_option maxRecDepth 100000 in
theorem zd_X8_goesOnAt (l : Launch) (D : va_G) (cI cZ cP cF : Nat) (q : Nat → Nat → Nat) (S : CST) (i : Nat) (a1 : Int32) (Post : Int32 → Prop) (h : wp_X8_goesOnAt S i a1 Post) : Met l yX8_goesOnAt zw_zd_X8_goesOnAt ({ frames := 2, cells := 0, slots := 0, locals := 42 }) (va_Pc [.ref (q 24 i), .int a1] (fun U => va_P D vwCl (cW cI cZ cP cF q S) U.heap ∧ zF D cI cZ cP cF U)) (vp_Si Post) 0 0 (fun _ => False) := by
  unfold wp_X8_goesOnAt at h
  refine Met.ofW (cc := cX8_goesOnAt) (maxL := 3) (ret := (some .boolean)) (by decide) rfl ?_
  intro p e s m args below meth c s₁ B hml hv
  obtain ⟨rfl, hP, hE⟩ := hv
  have hx := B.exec
  have hb := B.bytes
  have hr := B.returns
  have hts := atoms_spec (ws := zw_zd_X8_goesOnAt) B.pre
  have hown : s.vm.findClass RX8 = some m.cls := findClass_of_methodNamed B.named
  have hlocks := B.notSynchronized
  have hK := hE.k
  have hl := lv_entry ([.ref (q 24 i), .int a1]) (n := 3) (Nat.le_of_ble_eq_true rfl)
  rw [lg_entry_eq]
  generalize (lg_sl ([.ref (q 24 i), .int a1]) ++ List.replicate (3 - (lg_sl ([.ref (q 24 i), .int a1])).length) Slot.unset).toArray = ls at hl ⊢
  have hl : lv_has ls 3 [(0, .ref (q 24 i)), (1, .int a1)] := hl
  refine lv_aload_n hx hb dX8_goesOnAt_0 rfl (lv_at hl 0 rfl) ?_
  refine lv_iload_n hx hb dX8_goesOnAt_1 rfl (lv_at hl 1 rfl) ?_
  have hi_1 := h.1
  have h := h.2
  obtain ⟨p_1, hp_1⟩ := cget_24 cI cZ cP cF q S hi_1
  refine vp_callSi (va_Run.run (va_runV (As := [.int a1]) (rest := []) ⟨hx, hb, hml, hown, hts⟩ (zd_X8_opAt l D cI cZ cP cF q S i a1  _ h) (cwV 1 hts zg_zd_X8_goesOnAt_zd_X8_opAt_48 rfl rfl rfl (by decide +kernel) ⟨Nat.le_of_ble_eq_true rfl, Nat.le_of_ble_eq_true rfl⟩) ⟨zCR, va_recv hK hP (ci := 8) (q0 := p_1) rfl hp_1, fun U hU hW => ⟨rfl, by rw [hU]; exact hP, hE.warm hW⟩⟩ rfl rfl hl.1 rfl (lv_room (Nat.le_of_ble_eq_true rfl)) dX8_goesOnAt_2 ⟨Nat.le_of_ble_eq_true rfl, Nat.le_of_ble_eq_true rfl⟩)) (fun r2 h => ?_)
  refine lv_istore_n (lv' := [(2, .int r2), (0, .ref (q 24 i)), (1, .int a1)]) hx hb dX8_goesOnAt_5 rfl hl (by decide) rfl (fun ls hl => ?_)
  refine lv_aload_n hx hb dX8_goesOnAt_6 rfl (lv_at hl 1 rfl) ?_
  refine lv_iload_n hx hb dX8_goesOnAt_7 rfl (lv_at hl 2 rfl) ?_
  have hi_3 := h.1
  have h := h.2
  obtain ⟨p_3, hp_3⟩ := cget_24 cI cZ cP cF q S hi_3
  refine vp_callSi (va_Run.run (va_runV (As := [.int a1]) (rest := []) ⟨hx, hb, hml, hown, hts⟩ (zd_X8_isDead l D cI cZ cP cF q S i a1  _ h) (cwV 1 hts zg_zd_X8_goesOnAt_zd_X8_isDead_52 rfl rfl rfl (by decide +kernel) ⟨Nat.le_of_ble_eq_true rfl, Nat.le_of_ble_eq_true rfl⟩) ⟨zCR, va_recv hK hP (ci := 8) (q0 := p_3) rfl hp_3, fun U hU hW => ⟨rfl, by rw [hU]; exact hP, hE.warm hW⟩⟩ rfl rfl hl.1 rfl (lv_room (Nat.le_of_ble_eq_true rfl)) dX8_goesOnAt_8 ⟨Nat.le_of_ble_eq_true rfl, Nat.le_of_ble_eq_true rfl⟩)) (fun r4 h => ?_)
  refine lv_if_ne (tgt := 30) hx hb dX8_goesOnAt_11 (by decide) (fun c_5 => ?_) (fun c_5 => ?_)
  · have h := h.1 c_5
    refine lv_iconst (v := 0) hx hb dX8_goesOnAt_30 (by decide) ?_
    exact W.zret (v := 0) (ty := .boolean) hx hb hr (by decide) (fun t ht hW => ⟨_, rfl, h, ht⟩) (fun q h => by cases h) dX8_goesOnAt_31
  · have h := h.2 c_5
    refine lv_iload_n hx hb dX8_goesOnAt_14 rfl (lv_at hl 0 rfl) ?_
    refine lv_bipush (v := 9) hx hb dX8_goesOnAt_15 (by decide) ?_
    refine lv_icmp_eq (tgt := 30) hx hb dX8_goesOnAt_17 (by decide) (fun c_6 => ?_) (fun c_6 => ?_)
    · have h := h.1 c_6
      refine lv_iconst (v := 0) hx hb dX8_goesOnAt_30 (by decide) ?_
      exact W.zret (v := 0) (ty := .boolean) hx hb hr (by decide) (fun t ht hW => ⟨_, rfl, h, ht⟩) (fun q h => by cases h) dX8_goesOnAt_31
    · have h := h.2 c_6
      refine lv_iload_n hx hb dX8_goesOnAt_20 rfl (lv_at hl 0 rfl) ?_
      refine lv_bipush (v := 12) hx hb dX8_goesOnAt_21 (by decide) ?_
      refine lv_icmp_eq (tgt := 30) hx hb dX8_goesOnAt_23 (by decide) (fun c_7 => ?_) (fun c_7 => ?_)
      · have h := h.1 c_7
        refine lv_iconst (v := 0) hx hb dX8_goesOnAt_30 (by decide) ?_
        exact W.zret (v := 0) (ty := .boolean) hx hb hr (by decide) (fun t ht hW => ⟨_, rfl, h, ht⟩) (fun q h => by cases h) dX8_goesOnAt_31
      · have h := h.2 c_7
        refine lv_iconst (v := 1) hx hb dX8_goesOnAt_26 (by decide) ?_
        refine lv_goto (tgt := 31) hx hb dX8_goesOnAt_27 (by decide) ?_
        exact W.zret (v := 1) (ty := .boolean) hx hb hr (by decide) (fun t ht hW => ⟨_, rfl, h, ht⟩) (fun q h => by cases h) dX8_goesOnAt_31

def wp_X8_comeTo (S : CST) (i : Nat) (a1 : Int32) (a2 : Int32) (Post : CST → Prop) : Prop :=
  cin S 24 i ∧ (wp_X8_has S i a1 (fun r2 => (((r2 : Int32) = 0) → (Post S)) ∧ ((¬ ((r2 : Int32) = 0)) → (cin S 24 i ∧ (cin S 27 i ∧ vp_in a1 60 ∧ (∀ S6 : CST, S6 = cs S 270 i (upd (cv S 270 i) (a1 : Int32).toNatClampNeg a2) → (Post S6)))))))
def zw_zd_X8_comeTo_w0 : List Cond := [.code yX8_has cX8_has 2 (some .boolean), .fieldLink RX8 41 "TemplateForge$Program" "length" "I", .methodLink RX8 44 yX8_has, .instanceMethod yX8_has, .selects RX8 yX8_has yX8_has, .initialized RX8, .fieldLink RX8 25 "TemplateForge$Program" "depths" "[I"]
def zw_zd_X8_comeTo : List Cond := .code yX8_comeTo cX8_comeTo 3 none :: ((zw_zd_X8_comeTo_w0) ++ wsX80)
set_option maxRecDepth 100000 in
theorem zg_zd_X8_comeTo_zd_X8_has_44_a : GoodIn zw_zd_X8_comeTo [.methodLink RX8 44 yX8_has, .instanceMethod yX8_has, .selects RX8 yX8_has yX8_has, .initialized RX8] := goodIn_r _ [3, 4, 5, 6] rfl (by decide +kernel)
set_option maxRecDepth 100000 in
theorem zg_zd_X8_comeTo_zd_X8_has_44_c : GoodIn zw_zd_X8_comeTo [.code yX8_has cX8_has 2 (some .boolean)] := goodIn_r _ [1] rfl (by decide +kernel)
set_option maxRecDepth 100000 in
theorem zg_zd_X8_comeTo_zd_X8_has_44_0 : GoodIn zw_zd_X8_comeTo zw_zd_X8_has_w0 := goodIn_r _ [2] rfl (by decide +kernel)
theorem zg_zd_X8_comeTo_zd_X8_has_44 : GoodIn zw_zd_X8_comeTo (wsV RX8 44 RX8 yX8_has zw_zd_X8_has) := goodIn_app zg_zd_X8_comeTo_zd_X8_has_44_a (goodIn_ca (a := (zw_zd_X8_has_w0)) (show GoodIn zw_zd_X8_comeTo (.code yX8_has cX8_has 2 (some .boolean) :: (zw_zd_X8_has_w0)) from goodIn_app zg_zd_X8_comeTo_zd_X8_has_44_c (zg_zd_X8_comeTo_zd_X8_has_44_0)) (fun w h => ⟨(fun _ h => List.mem_cons_of_mem _ (List.mem_append_right _ h)) w h, good_of_word (List.all_eq_true.mp zgw_X8 w h)⟩))
set_option maxHeartbeats 16000000 in
set_option maxRecDepth 100000 in
theorem zd_X8_comeTo (l : Launch) (D : va_G) (cI cZ cP cF : Nat) (q : Nat → Nat → Nat) (S : CST) (i : Nat) (a1 : Int32) (a2 : Int32) (sz : Nat) (Post : CST → Prop) (h : wp_X8_comeTo S i a1 a2 Post) : Met l yX8_comeTo zw_zd_X8_comeTo ({ frames := 1, cells := 0, slots := 0, locals := 21 }) (va_Pc [.ref (q 24 i), .int a1, .int a2] (fun U => U.heap.size = sz ∧ va_P D vwCl (cW cI cZ cP cF q S) U.heap ∧ zF D cI cZ cP cF U ∧ va_D (fun _ => True) (cW cI cZ cP cF q S))) (va_Qv (fun S' => Post S') (fun (S' : CST) t => va_P D vwCl (cW cI cZ cP cF q S') t.heap ∧ va_D (va_A (cW cI cZ cP cF q S) sz) (cW cI cZ cP cF q S') ∧ S'.2 = S.2) (va_A (cW cI cZ cP cF q S) sz)) 0 0 (va_A (cW cI cZ cP cF q S) sz) := by
  unfold wp_X8_comeTo at h
  refine Met.ofW (cc := cX8_comeTo) (maxL := 3) (ret := none) (by decide) rfl ?_
  intro p e s m args below meth c s₁ B hml hv
  obtain ⟨rfl, hsz, hP, hE, hD0⟩ := hv
  have hx := B.exec
  have hb := B.bytes
  have hr := B.returns
  have hts := atoms_spec (ws := zw_zd_X8_comeTo) B.pre
  have hown : s.vm.findClass RX8 = some m.cls := findClass_of_methodNamed B.named
  have hlocks := B.notSynchronized
  have hK := hE.k
  subst hsz
  have hD := hD0.self (sz := s.heap.size)
  generalize hAe : va_A (cW cI cZ cP cF q S) s.heap.size = A at hD ⊢
  have hA : ∀ q : Nat, s.heap.size ≤ q → A q := fun q h => by rw [← hAe]; exact Or.inr h
  have hN : S.2 = S.2 := rfl
  have hl := lv_entry ([.ref (q 24 i), .int a1, .int a2]) (n := 3) (Nat.le_of_ble_eq_true rfl)
  rw [lg_entry_eq]
  generalize (lg_sl ([.ref (q 24 i), .int a1, .int a2]) ++ List.replicate (3 - (lg_sl ([.ref (q 24 i), .int a1, .int a2])).length) Slot.unset).toArray = ls at hl ⊢
  have hl : lv_has ls 3 [(0, .ref (q 24 i)), (1, .int a1), (2, .int a2)] := hl
  have key : ∀ (H : Heap) (locs : List Loc), va_P D vwCl (cW cI cZ cP cF q S) H → va_S A s.heap H locs → W p l e (headSpec zw_zd_X8_comeTo ({ frames := 1, cells := 0, slots := 0, locals := 21 })).room s m ([.ref (q 24 i), .int a1, .int a2] : List Value).toArray below meth c H locs 0 0 (MQ below (va_Qv (fun S' => Post S') (fun (S' : CST) t => va_P D vwCl (cW cI cZ cP cF q S') t.heap ∧ va_D A (cW cI cZ cP cF q S') ∧ S'.2 = S.2) A) ([.ref (q 24 i), .int a1, .int a2] : List Value).toArray s 0 0 A) (F0 m 0 ls []) := by
    intro H locs hP hS
    refine lv_aload_n hx hb dX8_comeTo_0 rfl (lv_at hl 0 rfl) ?_
    refine lv_iload_n hx hb dX8_comeTo_1 rfl (lv_at hl 1 rfl) ?_
    have hi_1 := h.1
    have h := h.2
    obtain ⟨p_1, hp_1⟩ := cget_24 cI cZ cP cF q S hi_1
    refine vp_callSi (va_Run.run (va_runV (As := [.int a1]) (rest := []) ⟨hx, hb, hml, hown, hts⟩ (zd_X8_has l D cI cZ cP cF q S i a1  _ h) (cwV 1 hts zg_zd_X8_comeTo_zd_X8_has_44 rfl rfl rfl (by decide +kernel) ⟨Nat.le_of_ble_eq_true rfl, Nat.le_of_ble_eq_true rfl⟩) ⟨zCR, va_recv hK hP (ci := 8) (q0 := p_1) rfl hp_1, fun U hU hW => ⟨rfl, by rw [hU]; exact hP, hE.warm hW⟩⟩ rfl rfl hl.1 rfl (lv_room (Nat.le_of_ble_eq_true rfl)) dX8_comeTo_2 ⟨Nat.le_of_ble_eq_true rfl, Nat.le_of_ble_eq_true rfl⟩)) (fun r2 h => ?_)
    refine lv_if_eq (tgt := 15) hx hb dX8_comeTo_5 (by decide) (fun c_3 => ?_) (fun c_3 => ?_)
    · have h := h.1 c_3
      exact W.vret hx hb hr (fun t ht hW => ⟨⟨S, rfl, h, by rw [ht]; exact hP, hD, hN⟩, hS.F ht⟩) hS.2.2 dX8_comeTo_15
    · have h := h.2 c_3
      refine lv_aload_n hx hb dX8_comeTo_8 rfl (lv_at hl 0 rfl) ?_
      have hi_4 := h.1
      have h := h.2
      obtain ⟨p_4, hp_4⟩ := cget_24 cI cZ cP cF q S hi_4
      refine va_get (D := D) (ci := 8) (v := .ref (q 27 i)) (C := RX8) (T := TX8) (N := 10) hx hb hts (fun _ h => List.mem_cons_of_mem _ (List.mem_append_right _ h)) hown hK hP p_4 hp_4 rfl 6 (by decide) (hts (.fieldLink RX8 25 "TemplateForge$Program" "depths" "[I") (List.mem_of_getElem? (i := 7) rfl)) (fun _ h9 => h9) rfl dX8_comeTo_9 ?_
      refine lv_iload_n hx hb dX8_comeTo_12 rfl (lv_at hl 1 rfl) ?_
      refine lv_iload_n hx hb dX8_comeTo_13 rfl (lv_at hl 2 rfl) ?_
      have hi_5 := h.1
      have h := h.2
      obtain ⟨p_5, hp_5⟩ := cget_27 cI cZ cP cF q S hi_5
      have hin_5 := h.1
      have h := h.2
      have hD0_5 := hD
      refine va_iast hx hb hK hP hD hS p_5 0 hp_5 rfl hin_5 dX8_comeTo_14 (fun H locs hP hD hS => ?_)
      obtain ⟨S6, eS6⟩ : ∃ z, z = cs S 270 i (upd (cv S 270 i) (a1 : Int32).toNatClampNeg a2) := ⟨_, rfl⟩
      have hP : va_P D vwCl (cW cI cZ cP cF q S6) H := by rw [eS6, ← cW_put (k := 270) (κ := 27) (i := i) (g := (upd (cv S 270 i) (a1 : Int32).toNatClampNeg a2)) rfl hD0_5 hp_5 hi_5, cput_270]; exact hP
      have hD : va_D A (cW cI cZ cP cF q S6) := by rw [eS6, ← cW_put (k := 270) (κ := 27) (i := i) (g := (upd (cv S 270 i) (a1 : Int32).toNatClampNeg a2)) rfl hD0_5 hp_5 hi_5, cput_270]; exact hD
      have hN : S6.2 = S.2 := by rw [eS6]; exact hN
      have h := h S6 eS6
      exact W.vret hx hb hr (fun t ht hW => ⟨⟨S6, rfl, h, by rw [ht]; exact hP, hD, hN⟩, hS.F ht⟩) hS.2.2 dX8_comeTo_15
  exact key _ _ hP va_S.rf

def wp_X9_know (S : CST) (a1 : Int32) (a2 : Int32) (Post : CST → Prop) : Prop :=
  (((a1 : Int32) < 0) → (Post S)) ∧ ((¬ ((a1 : Int32) < 0)) → (((15 ≤ a1) → (Post S)) ∧ ((¬ (15 ≤ a1)) → (vp_in a1 15 ∧ (∀ S5 : CST, S5 = cs S 160 0 (upd (cv S 160 0) (a1 : Int32).toNatClampNeg (vp_nar .boolean 1)) → (vp_in a1 15 ∧ (∀ S8 : CST, S8 = cs S5 170 0 (upd (cv S5 170 0) (a1 : Int32).toNatClampNeg a2) → (Post S8))))))))
def zw_zd_X9_know_w0 : List Cond := [.fieldLink RX9 9 "TemplateForge$Smith" "known" "[Z", .fieldLink RX9 15 "TemplateForge$Smith" "worth" "[I"]
def zw_zd_X9_know : List Cond := .code yX9_know cX9_know 3 none :: ((zw_zd_X9_know_w0) ++ wsX90)
set_option maxHeartbeats 16000000 in
set_option maxRecDepth 100000 in
theorem zd_X9_know (l : Launch) (D : va_G) (cI cZ cP cF : Nat) (q : Nat → Nat → Nat) (S : CST) (a1 : Int32) (a2 : Int32) (sz : Nat) (Post : CST → Prop) (h : wp_X9_know S a1 a2 Post) : Met l yX9_know zw_zd_X9_know ({ frames := 0, cells := 0, slots := 0, locals := 0 }) (va_Pc [.ref (q 15 0), .int a1, .int a2] (fun U => U.heap.size = sz ∧ va_P D vwCl (cW cI cZ cP cF q S) U.heap ∧ zF D cI cZ cP cF U ∧ va_D (fun _ => True) (cW cI cZ cP cF q S))) (va_Qv (fun S' => Post S') (fun (S' : CST) t => va_P D vwCl (cW cI cZ cP cF q S') t.heap ∧ va_D (va_A (cW cI cZ cP cF q S) sz) (cW cI cZ cP cF q S') ∧ S'.2 = S.2) (va_A (cW cI cZ cP cF q S) sz)) 0 0 (va_A (cW cI cZ cP cF q S) sz) := by
  unfold wp_X9_know at h
  refine Met.ofW (cc := cX9_know) (maxL := 3) (ret := none) (by decide) rfl ?_
  intro p e s m args below meth c s₁ B hml hv
  obtain ⟨rfl, hsz, hP, hE, hD0⟩ := hv
  have hx := B.exec
  have hb := B.bytes
  have hr := B.returns
  have hts := atoms_spec (ws := zw_zd_X9_know) B.pre
  have hown : s.vm.findClass RX9 = some m.cls := findClass_of_methodNamed B.named
  have hlocks := B.notSynchronized
  have hK := hE.k
  subst hsz
  have hD := hD0.self (sz := s.heap.size)
  generalize hAe : va_A (cW cI cZ cP cF q S) s.heap.size = A at hD ⊢
  have hA : ∀ q : Nat, s.heap.size ≤ q → A q := fun q h => by rw [← hAe]; exact Or.inr h
  have hN : S.2 = S.2 := rfl
  have hl := lv_entry ([.ref (q 15 0), .int a1, .int a2]) (n := 3) (Nat.le_of_ble_eq_true rfl)
  rw [lg_entry_eq]
  generalize (lg_sl ([.ref (q 15 0), .int a1, .int a2]) ++ List.replicate (3 - (lg_sl ([.ref (q 15 0), .int a1, .int a2])).length) Slot.unset).toArray = ls at hl ⊢
  have hl : lv_has ls 3 [(0, .ref (q 15 0)), (1, .int a1), (2, .int a2)] := hl
  have key : ∀ (H : Heap) (locs : List Loc), va_P D vwCl (cW cI cZ cP cF q S) H → va_S A s.heap H locs → W p l e (headSpec zw_zd_X9_know ({ frames := 0, cells := 0, slots := 0, locals := 0 })).room s m ([.ref (q 15 0), .int a1, .int a2] : List Value).toArray below meth c H locs 0 0 (MQ below (va_Qv (fun S' => Post S') (fun (S' : CST) t => va_P D vwCl (cW cI cZ cP cF q S') t.heap ∧ va_D A (cW cI cZ cP cF q S') ∧ S'.2 = S.2) A) ([.ref (q 15 0), .int a1, .int a2] : List Value).toArray s 0 0 A) (F0 m 0 ls []) := by
    intro H locs hP hS
    refine lv_iload_n hx hb dX9_know_0 rfl (lv_at hl 1 rfl) ?_
    refine lv_if_lt (tgt := 24) hx hb dX9_know_1 (by decide) (fun c_1 => ?_) (fun c_1 => ?_)
    · have h := h.1 c_1
      exact W.vret hx hb hr (fun t ht hW => ⟨⟨S, rfl, h, by rw [ht]; exact hP, hD, hN⟩, hS.F ht⟩) hS.2.2 dX9_know_24
    · have h := h.2 c_1
      refine lv_iload_n hx hb dX9_know_4 rfl (lv_at hl 1 rfl) ?_
      refine lv_bipush (v := 15) hx hb dX9_know_5 (by decide) ?_
      refine lv_icmp_ge (tgt := 24) hx hb dX9_know_7 (by decide) (fun c_2 => ?_) (fun c_2 => ?_)
      · have h := h.1 c_2
        exact W.vret hx hb hr (fun t ht hW => ⟨⟨S, rfl, h, by rw [ht]; exact hP, hD, hN⟩, hS.F ht⟩) hS.2.2 dX9_know_24
      · have h := h.2 c_2
        refine lv_aload_n hx hb dX9_know_10 rfl (lv_at hl 0 rfl) ?_
        obtain ⟨p_3, hp_3⟩ := cget_15 cI cZ cP cF q S
        have hi_3 : cin S 15 0 := Or.inl ⟨by decide, rfl⟩
        refine va_get (D := D) (ci := 9) (v := .ref (q 16 0)) (C := RX9) (T := TX9) (N := 5) hx hb hts (fun _ h => List.mem_cons_of_mem _ (List.mem_append_right _ h)) hown hK hP p_3 hp_3 rfl 1 (by decide) (hts (.fieldLink RX9 9 "TemplateForge$Smith" "known" "[Z") (List.mem_of_getElem? (i := 1) rfl)) (fun _ h9 => h9) rfl dX9_know_11 ?_
        refine lv_iload_n hx hb dX9_know_14 rfl (lv_at hl 1 rfl) ?_
        refine lv_iconst (v := 1) hx hb dX9_know_15 (by decide) ?_
        obtain ⟨p_4, hp_4⟩ := cget_16 cI cZ cP cF q S
        have hi_4 : cin S 16 0 := Or.inl ⟨by decide, rfl⟩
        have hin_4 := h.1
        have h := h.2
        have hD0_4 := hD
        refine va_zast hx hb hK hP hD hS p_4 1 hp_4 rfl hin_4 dX9_know_16 (fun H locs hP hD hS => ?_)
        obtain ⟨S5, eS5⟩ : ∃ z, z = cs S 160 0 (upd (cv S 160 0) (a1 : Int32).toNatClampNeg (vp_nar .boolean 1)) := ⟨_, rfl⟩
        have hP : va_P D vwCl (cW cI cZ cP cF q S5) H := by rw [eS5, ← cW_put (k := 160) (κ := 16) (i := 0) (g := (upd (cv S 160 0) (a1 : Int32).toNatClampNeg (vp_nar .boolean 1))) rfl hD0_4 hp_4 hi_4, cput_160]; exact hP
        have hD : va_D A (cW cI cZ cP cF q S5) := by rw [eS5, ← cW_put (k := 160) (κ := 16) (i := 0) (g := (upd (cv S 160 0) (a1 : Int32).toNatClampNeg (vp_nar .boolean 1))) rfl hD0_4 hp_4 hi_4, cput_160]; exact hD
        have hN : S5.2 = S.2 := by rw [eS5]; exact hN
        have h := h S5 eS5
        refine lv_aload_n hx hb dX9_know_17 rfl (lv_at hl 0 rfl) ?_
        obtain ⟨p_6, hp_6⟩ := cget_15 cI cZ cP cF q S5
        have hi_6 : cin S5 15 0 := Or.inl ⟨by decide, rfl⟩
        refine va_get (D := D) (ci := 9) (v := .ref (q 17 0)) (C := RX9) (T := TX9) (N := 5) hx hb hts (fun _ h => List.mem_cons_of_mem _ (List.mem_append_right _ h)) hown hK hP p_6 hp_6 rfl 2 (by decide) (hts (.fieldLink RX9 15 "TemplateForge$Smith" "worth" "[I") (List.mem_of_getElem? (i := 2) rfl)) (fun _ h9 => h9) rfl dX9_know_18 ?_
        refine lv_iload_n hx hb dX9_know_21 rfl (lv_at hl 1 rfl) ?_
        refine lv_iload_n hx hb dX9_know_22 rfl (lv_at hl 2 rfl) ?_
        obtain ⟨p_7, hp_7⟩ := cget_17 cI cZ cP cF q S5
        have hi_7 : cin S5 17 0 := Or.inl ⟨by decide, rfl⟩
        have hin_7 := h.1
        have h := h.2
        have hD0_7 := hD
        refine va_iast hx hb hK hP hD hS p_7 0 hp_7 rfl hin_7 dX9_know_23 (fun H locs hP hD hS => ?_)
        obtain ⟨S8, eS8⟩ : ∃ z, z = cs S5 170 0 (upd (cv S5 170 0) (a1 : Int32).toNatClampNeg a2) := ⟨_, rfl⟩
        have hP : va_P D vwCl (cW cI cZ cP cF q S8) H := by rw [eS8, ← cW_put (k := 170) (κ := 17) (i := 0) (g := (upd (cv S5 170 0) (a1 : Int32).toNatClampNeg a2)) rfl hD0_7 hp_7 hi_7, cput_170]; exact hP
        have hD : va_D A (cW cI cZ cP cF q S8) := by rw [eS8, ← cW_put (k := 170) (κ := 17) (i := 0) (g := (upd (cv S5 170 0) (a1 : Int32).toNatClampNeg a2)) rfl hD0_7 hp_7 hi_7, cput_170]; exact hD
        have hN : S8.2 = S.2 := by rw [eS8]; exact hN
        have h := h S8 eS8
        exact W.vret hx hb hr (fun t ht hW => ⟨⟨S8, rfl, h, by rw [ht]; exact hP, hD, hN⟩, hS.F ht⟩) hS.2.2 dX9_know_24
  exact key _ _ hP va_S.rf

def wp_X9_isCopyKnown (S : CST) (a1 : Int32) (a2 : Int32) (Post : CST → Int32 → Prop) : Prop :=
  wp_X9_isKnown S a1 (fun r2 => (((r2 : Int32) = 0) → (Post S 0)) ∧ ((¬ ((r2 : Int32) = 0)) → (wp_X9_worthOf S a1 (fun r5 => wp_X9_know S a2 r5 (fun S7 => Post S7 1)))))
def zw_zd_X9_isCopyKnown_w0 : List Cond := [.code yX9_isKnown cX9_isKnown 2 (some .boolean), .fieldLink RX9 9 "TemplateForge$Smith" "known" "[Z", .methodLink RX9 154 yX9_isKnown, .instanceMethod yX9_isKnown, .selects RX9 yX9_isKnown yX9_isKnown, .initialized RX9, .code yX9_worthOf cX9_worthOf 2 (some .int), .fieldLink RX9 15 "TemplateForge$Smith" "worth" "[I", .methodLink RX9 157 yX9_worthOf, .instanceMethod yX9_worthOf, .selects RX9 yX9_worthOf yX9_worthOf, .code yX9_know cX9_know 3 none, .methodLink RX9 125 yX9_know, .instanceMethod yX9_know, .selects RX9 yX9_know yX9_know]
def zw_zd_X9_isCopyKnown : List Cond := .code yX9_isCopyKnown cX9_isCopyKnown 3 (some .boolean) :: ((zw_zd_X9_isCopyKnown_w0) ++ wsX90)
set_option maxRecDepth 100000 in
theorem zg_zd_X9_isCopyKnown_zd_X9_isKnown_154_a : GoodIn zw_zd_X9_isCopyKnown [.methodLink RX9 154 yX9_isKnown, .instanceMethod yX9_isKnown, .selects RX9 yX9_isKnown yX9_isKnown, .initialized RX9] := goodIn_r _ [3, 4, 5, 6] rfl (by decide +kernel)
set_option maxRecDepth 100000 in
theorem zg_zd_X9_isCopyKnown_zd_X9_isKnown_154_c : GoodIn zw_zd_X9_isCopyKnown [.code yX9_isKnown cX9_isKnown 2 (some .boolean)] := goodIn_r _ [1] rfl (by decide +kernel)
set_option maxRecDepth 100000 in
theorem zg_zd_X9_isCopyKnown_zd_X9_isKnown_154_0 : GoodIn zw_zd_X9_isCopyKnown zw_zd_X9_isKnown_w0 := goodIn_r _ [2] rfl (by decide +kernel)
theorem zg_zd_X9_isCopyKnown_zd_X9_isKnown_154 : GoodIn zw_zd_X9_isCopyKnown (wsV RX9 154 RX9 yX9_isKnown zw_zd_X9_isKnown) := goodIn_app zg_zd_X9_isCopyKnown_zd_X9_isKnown_154_a (goodIn_ca (a := (zw_zd_X9_isKnown_w0)) (show GoodIn zw_zd_X9_isCopyKnown (.code yX9_isKnown cX9_isKnown 2 (some .boolean) :: (zw_zd_X9_isKnown_w0)) from goodIn_app zg_zd_X9_isCopyKnown_zd_X9_isKnown_154_c (zg_zd_X9_isCopyKnown_zd_X9_isKnown_154_0)) (fun w h => ⟨(fun _ h => List.mem_cons_of_mem _ (List.mem_append_right _ h)) w h, good_of_word (List.all_eq_true.mp zgw_X9 w h)⟩))
set_option maxRecDepth 100000 in
theorem zg_zd_X9_isCopyKnown_zd_X9_worthOf_157_a : GoodIn zw_zd_X9_isCopyKnown [.methodLink RX9 157 yX9_worthOf, .instanceMethod yX9_worthOf, .selects RX9 yX9_worthOf yX9_worthOf, .initialized RX9] := goodIn_r _ [9, 10, 11, 6] rfl (by decide +kernel)
set_option maxRecDepth 100000 in
theorem zg_zd_X9_isCopyKnown_zd_X9_worthOf_157_c : GoodIn zw_zd_X9_isCopyKnown [.code yX9_worthOf cX9_worthOf 2 (some .int)] := goodIn_r _ [7] rfl (by decide +kernel)
set_option maxRecDepth 100000 in
theorem zg_zd_X9_isCopyKnown_zd_X9_worthOf_157_0 : GoodIn zw_zd_X9_isCopyKnown zw_zd_X9_worthOf_w0 := goodIn_r _ [8] rfl (by decide +kernel)
theorem zg_zd_X9_isCopyKnown_zd_X9_worthOf_157 : GoodIn zw_zd_X9_isCopyKnown (wsV RX9 157 RX9 yX9_worthOf zw_zd_X9_worthOf) := goodIn_app zg_zd_X9_isCopyKnown_zd_X9_worthOf_157_a (goodIn_ca (a := (zw_zd_X9_worthOf_w0)) (show GoodIn zw_zd_X9_isCopyKnown (.code yX9_worthOf cX9_worthOf 2 (some .int) :: (zw_zd_X9_worthOf_w0)) from goodIn_app zg_zd_X9_isCopyKnown_zd_X9_worthOf_157_c (zg_zd_X9_isCopyKnown_zd_X9_worthOf_157_0)) (fun w h => ⟨(fun _ h => List.mem_cons_of_mem _ (List.mem_append_right _ h)) w h, good_of_word (List.all_eq_true.mp zgw_X9 w h)⟩))
set_option maxRecDepth 100000 in
theorem zg_zd_X9_isCopyKnown_zd_X9_know_125_a : GoodIn zw_zd_X9_isCopyKnown [.methodLink RX9 125 yX9_know, .instanceMethod yX9_know, .selects RX9 yX9_know yX9_know, .initialized RX9] := goodIn_r _ [13, 14, 15, 6] rfl (by decide +kernel)
set_option maxRecDepth 100000 in
theorem zg_zd_X9_isCopyKnown_zd_X9_know_125_c : GoodIn zw_zd_X9_isCopyKnown [.code yX9_know cX9_know 3 none] := goodIn_r _ [12] rfl (by decide +kernel)
set_option maxRecDepth 100000 in
theorem zg_zd_X9_isCopyKnown_zd_X9_know_125_0 : GoodIn zw_zd_X9_isCopyKnown zw_zd_X9_know_w0 := goodIn_r _ [2, 8] rfl (by decide +kernel)
theorem zg_zd_X9_isCopyKnown_zd_X9_know_125 : GoodIn zw_zd_X9_isCopyKnown (wsV RX9 125 RX9 yX9_know zw_zd_X9_know) := goodIn_app zg_zd_X9_isCopyKnown_zd_X9_know_125_a (goodIn_ca (a := (zw_zd_X9_know_w0)) (show GoodIn zw_zd_X9_isCopyKnown (.code yX9_know cX9_know 3 none :: (zw_zd_X9_know_w0)) from goodIn_app zg_zd_X9_isCopyKnown_zd_X9_know_125_c (zg_zd_X9_isCopyKnown_zd_X9_know_125_0)) (fun w h => ⟨(fun _ h => List.mem_cons_of_mem _ (List.mem_append_right _ h)) w h, good_of_word (List.all_eq_true.mp zgw_X9 w h)⟩))
set_option maxHeartbeats 16000000 in
set_option maxRecDepth 100000 in
theorem zd_X9_isCopyKnown (l : Launch) (D : va_G) (cI cZ cP cF : Nat) (q : Nat → Nat → Nat) (S : CST) (a1 : Int32) (a2 : Int32) (sz : Nat) (Post : CST → Int32 → Prop) (h : wp_X9_isCopyKnown S a1 a2 Post) : Met l yX9_isCopyKnown zw_zd_X9_isCopyKnown ({ frames := 1, cells := 0, slots := 0, locals := 22 }) (va_Pc [.ref (q 15 0), .int a1, .int a2] (fun U => U.heap.size = sz ∧ va_P D vwCl (cW cI cZ cP cF q S) U.heap ∧ zF D cI cZ cP cF U ∧ va_D (fun _ => True) (cW cI cZ cP cF q S))) (va_Qi (fun r S' => Post S' r) (fun (S' : CST) t => va_P D vwCl (cW cI cZ cP cF q S') t.heap ∧ va_D (va_A (cW cI cZ cP cF q S) sz) (cW cI cZ cP cF q S') ∧ S'.2 = S.2) (va_A (cW cI cZ cP cF q S) sz)) 0 0 (va_A (cW cI cZ cP cF q S) sz) := by
  unfold wp_X9_isCopyKnown at h
  refine Met.ofW (cc := cX9_isCopyKnown) (maxL := 3) (ret := (some .boolean)) (by decide) rfl ?_
  intro p e s m args below meth c s₁ B hml hv
  obtain ⟨rfl, hsz, hP, hE, hD0⟩ := hv
  have hx := B.exec
  have hb := B.bytes
  have hr := B.returns
  have hts := atoms_spec (ws := zw_zd_X9_isCopyKnown) B.pre
  have hown : s.vm.findClass RX9 = some m.cls := findClass_of_methodNamed B.named
  have hlocks := B.notSynchronized
  have hK := hE.k
  subst hsz
  have hD := hD0.self (sz := s.heap.size)
  generalize hAe : va_A (cW cI cZ cP cF q S) s.heap.size = A at hD ⊢
  have hA : ∀ q : Nat, s.heap.size ≤ q → A q := fun q h => by rw [← hAe]; exact Or.inr h
  have hN : S.2 = S.2 := rfl
  have hl := lv_entry ([.ref (q 15 0), .int a1, .int a2]) (n := 3) (Nat.le_of_ble_eq_true rfl)
  rw [lg_entry_eq]
  generalize (lg_sl ([.ref (q 15 0), .int a1, .int a2]) ++ List.replicate (3 - (lg_sl ([.ref (q 15 0), .int a1, .int a2])).length) Slot.unset).toArray = ls at hl ⊢
  have hl : lv_has ls 3 [(0, .ref (q 15 0)), (1, .int a1), (2, .int a2)] := hl
  have key : ∀ (H : Heap) (locs : List Loc), va_P D vwCl (cW cI cZ cP cF q S) H → va_S A s.heap H locs → W p l e (headSpec zw_zd_X9_isCopyKnown ({ frames := 1, cells := 0, slots := 0, locals := 22 })).room s m ([.ref (q 15 0), .int a1, .int a2] : List Value).toArray below meth c H locs 0 0 (MQ below (va_Qi (fun r S' => Post S' r) (fun (S' : CST) t => va_P D vwCl (cW cI cZ cP cF q S') t.heap ∧ va_D A (cW cI cZ cP cF q S') ∧ S'.2 = S.2) A) ([.ref (q 15 0), .int a1, .int a2] : List Value).toArray s 0 0 A) (F0 m 0 ls []) := by
    intro H locs hP hS
    refine lv_aload_n hx hb dX9_isCopyKnown_0 rfl (lv_at hl 0 rfl) ?_
    refine lv_iload_n hx hb dX9_isCopyKnown_1 rfl (lv_at hl 1 rfl) ?_
    obtain ⟨p_1, hp_1⟩ := cget_15 cI cZ cP cF q S
    have hi_1 : cin S 15 0 := Or.inl ⟨by decide, rfl⟩
    refine vp_callSi (va_Run.run (va_runV (As := [.int a1]) (rest := []) ⟨hx, hb, hml, hown, hts⟩ (zd_X9_isKnown l D cI cZ cP cF q S a1  _ h) (cwV 1 hts zg_zd_X9_isCopyKnown_zd_X9_isKnown_154 rfl rfl rfl (by decide +kernel) ⟨Nat.le_of_ble_eq_true rfl, Nat.le_of_ble_eq_true rfl⟩) ⟨zCR, va_recv hK hP (ci := 9) (q0 := p_1) rfl hp_1, fun U hU hW => ⟨rfl, by rw [hU]; exact hP, hE.warm hW⟩⟩ rfl rfl hl.1 rfl (lv_room (Nat.le_of_ble_eq_true rfl)) dX9_isCopyKnown_2 ⟨Nat.le_of_ble_eq_true rfl, Nat.le_of_ble_eq_true rfl⟩)) (fun r2 h => ?_)
    refine lv_if_eq (tgt := 20) hx hb dX9_isCopyKnown_5 (by decide) (fun c_3 => ?_) (fun c_3 => ?_)
    · have h := h.1 c_3
      refine lv_iconst (v := 0) hx hb dX9_isCopyKnown_20 (by decide) ?_
      exact W.zret (v := 0) (ty := .boolean) hx hb hr (by decide) (fun t ht hW => ⟨⟨_, S, rfl, h, by rw [ht]; exact hP, hD, hN⟩, hS.F ht⟩) hS.2.2 dX9_isCopyKnown_21
    · have h := h.2 c_3
      refine lv_aload_n hx hb dX9_isCopyKnown_8 rfl (lv_at hl 0 rfl) ?_
      refine lv_iload_n hx hb dX9_isCopyKnown_9 rfl (lv_at hl 2 rfl) ?_
      refine lv_aload_n hx hb dX9_isCopyKnown_10 rfl (lv_at hl 0 rfl) ?_
      refine lv_iload_n hx hb dX9_isCopyKnown_11 rfl (lv_at hl 1 rfl) ?_
      obtain ⟨p_4, hp_4⟩ := cget_15 cI cZ cP cF q S
      have hi_4 : cin S 15 0 := Or.inl ⟨by decide, rfl⟩
      refine vp_callSi (va_Run.run (va_runV (As := [.int a1]) (rest := [.int a2, .ref (q 15 0)]) ⟨hx, hb, hml, hown, hts⟩ (zd_X9_worthOf l D cI cZ cP cF q S a1  _ h) (cwV 1 hts zg_zd_X9_isCopyKnown_zd_X9_worthOf_157 rfl rfl rfl (by decide +kernel) ⟨Nat.le_of_ble_eq_true rfl, Nat.le_of_ble_eq_true rfl⟩) ⟨zCR, va_recv hK hP (ci := 9) (q0 := p_4) rfl hp_4, fun U hU hW => ⟨rfl, by rw [hU]; exact hP, hE.warm hW⟩⟩ rfl rfl hl.1 rfl (lv_room (Nat.le_of_ble_eq_true rfl)) dX9_isCopyKnown_12 ⟨Nat.le_of_ble_eq_true rfl, Nat.le_of_ble_eq_true rfl⟩)) (fun r5 h => ?_)
      obtain ⟨p_6, hp_6⟩ := cget_15 cI cZ cP cF q S
      have hi_6 : cin S 15 0 := Or.inl ⟨by decide, rfl⟩
      have hFc := zm_free hD hS hA
      refine va_callv (va_runV (As := [.int a2, .int r5]) (rest := []) ⟨hx, hb, hml, hown, hts⟩ (zd_X9_know l D cI cZ cP cF q S a2 r5 H.size _ h) (cwV 2 hts zg_zd_X9_isCopyKnown_zd_X9_know_125 rfl rfl rfl (by decide +kernel) ⟨Nat.le_of_ble_eq_true rfl, Nat.le_of_ble_eq_true rfl⟩) ⟨zCW, va_recv hK hP (ci := 9) (q0 := p_6) rfl hp_6, fun U hU hW => ⟨rfl, by rw [hU], by rw [hU]; exact hP, hE.warm hW, hD.weaken (fun _ _ _ _ => trivial)⟩⟩ rfl rfl hl.1 rfl (lv_room (Nat.le_of_ble_eq_true rfl)) dX9_isCopyKnown_15 ⟨Nat.le_of_ble_eq_true rfl, Nat.le_of_ble_eq_true rfl⟩) hS (fun q _ h => hFc q h) hFc (fun S7 t H locs ht hvm h hB hz1 hk1 hS => ?_)
      obtain ⟨hP, hD1, hN1⟩ := hB
      rw [ht] at hP
      have hD := hD1.weaken (fun k q _ hq => hFc q.1 hq)
      have hN := hN1.trans hN
      refine lv_iconst (v := 1) hx hb dX9_isCopyKnown_18 (by decide) ?_
      exact W.zret (v := 1) (ty := .boolean) hx hb hr (by decide) (fun t ht hW => ⟨⟨_, S7, rfl, h, by rw [ht]; exact hP, hD, hN⟩, hS.F ht⟩) hS.2.2 dX9_isCopyKnown_19
  exact key _ _ hP va_S.rf

def wp_X9_isStoredKnown (S : CST) (a1 : Int32) (a2 : Int32) (a3 : Int32) (Post : CST → Int32 → Prop) : Prop :=
  wp_X9_isKnown S a2 (fun r2 => (((r2 : Int32) = 0) → (wp_X9_forget S a1 (fun S5 => Post S5 0))) ∧ ((¬ ((r2 : Int32) = 0)) → (wp_X9_worthOf S a2 (fun r8 => wp_X3_add S 0 a1 r8 0 a3 (fun S10 => wp_X9_worthOf S10 a2 (fun r12 => wp_X9_know S10 a1 r12 (fun S14 => wp_X9_forget S14 a2 (fun S16 => Post S16 1))))))))
def zw_zd_X9_isStoredKnown_w0 : List Cond := [.code yX9_isKnown cX9_isKnown 2 (some .boolean), .fieldLink RX9 9 "TemplateForge$Smith" "known" "[Z", .methodLink RX9 154 yX9_isKnown, .instanceMethod yX9_isKnown, .selects RX9 yX9_isKnown yX9_isKnown, .initialized RX9, .code yX9_forget cX9_forget 2 none, .methodLink RX9 140 yX9_forget, .instanceMethod yX9_forget, .selects RX9 yX9_forget yX9_forget, .fieldLink RX9 25 "TemplateForge$Smith" "draft" "LTemplateForge$Draft;", .code yX9_worthOf cX9_worthOf 2 (some .int), .fieldLink RX9 15 "TemplateForge$Smith" "worth" "[I", .methodLink RX9 157 yX9_worthOf, .instanceMethod yX9_worthOf, .selects RX9 yX9_worthOf yX9_worthOf]
def zw_zd_X9_isStoredKnown_w1 : List Cond := [.code yX3_add cX3_add 7 none, .fieldLink RX3 18 "TemplateForge$Draft" "parts" "I", .fieldLink RX3 9 "TemplateForge$Draft" "cells" "[I", .methodLink RX9 121 yX3_add, .instanceMethod yX3_add, .selects RX3 yX3_add yX3_add, .initialized RX3, .code yX9_know cX9_know 3 none, .methodLink RX9 125 yX9_know, .instanceMethod yX9_know, .selects RX9 yX9_know yX9_know]
def zw_zd_X9_isStoredKnown : List Cond := .code yX9_isStoredKnown cX9_isStoredKnown 4 (some .boolean) :: ((zw_zd_X9_isStoredKnown_w0 ++ (zw_zd_X9_isStoredKnown_w1)) ++ wsX90 ++ wsX30)
set_option maxRecDepth 100000 in
theorem zg_zd_X9_isStoredKnown_zd_X9_isKnown_154_a : GoodIn zw_zd_X9_isStoredKnown [.methodLink RX9 154 yX9_isKnown, .instanceMethod yX9_isKnown, .selects RX9 yX9_isKnown yX9_isKnown, .initialized RX9] := goodIn_r _ [3, 4, 5, 6] rfl (by decide +kernel)
set_option maxRecDepth 100000 in
theorem zg_zd_X9_isStoredKnown_zd_X9_isKnown_154_c : GoodIn zw_zd_X9_isStoredKnown [.code yX9_isKnown cX9_isKnown 2 (some .boolean)] := goodIn_r _ [1] rfl (by decide +kernel)
set_option maxRecDepth 100000 in
theorem zg_zd_X9_isStoredKnown_zd_X9_isKnown_154_0 : GoodIn zw_zd_X9_isStoredKnown zw_zd_X9_isKnown_w0 := goodIn_r _ [2] rfl (by decide +kernel)
theorem zg_zd_X9_isStoredKnown_zd_X9_isKnown_154 : GoodIn zw_zd_X9_isStoredKnown (wsV RX9 154 RX9 yX9_isKnown zw_zd_X9_isKnown) := goodIn_app zg_zd_X9_isStoredKnown_zd_X9_isKnown_154_a (goodIn_ca (a := (zw_zd_X9_isKnown_w0)) (show GoodIn zw_zd_X9_isStoredKnown (.code yX9_isKnown cX9_isKnown 2 (some .boolean) :: (zw_zd_X9_isKnown_w0)) from goodIn_app zg_zd_X9_isStoredKnown_zd_X9_isKnown_154_c (zg_zd_X9_isStoredKnown_zd_X9_isKnown_154_0)) (fun w h => ⟨(fun _ h => List.mem_cons_of_mem _ (List.mem_append_left _ (List.mem_append_right _ h))) w h, good_of_word (List.all_eq_true.mp zgw_X9 w h)⟩))
set_option maxRecDepth 100000 in
theorem zg_zd_X9_isStoredKnown_zd_X9_forget_140_a : GoodIn zw_zd_X9_isStoredKnown [.methodLink RX9 140 yX9_forget, .instanceMethod yX9_forget, .selects RX9 yX9_forget yX9_forget, .initialized RX9] := goodIn_r _ [8, 9, 10, 6] rfl (by decide +kernel)
set_option maxRecDepth 100000 in
theorem zg_zd_X9_isStoredKnown_zd_X9_forget_140_c : GoodIn zw_zd_X9_isStoredKnown [.code yX9_forget cX9_forget 2 none] := goodIn_r _ [7] rfl (by decide +kernel)
set_option maxRecDepth 100000 in
theorem zg_zd_X9_isStoredKnown_zd_X9_forget_140_0 : GoodIn zw_zd_X9_isStoredKnown zw_zd_X9_forget_w0 := goodIn_r _ [2] rfl (by decide +kernel)
theorem zg_zd_X9_isStoredKnown_zd_X9_forget_140 : GoodIn zw_zd_X9_isStoredKnown (wsV RX9 140 RX9 yX9_forget zw_zd_X9_forget) := goodIn_app zg_zd_X9_isStoredKnown_zd_X9_forget_140_a (goodIn_ca (a := (zw_zd_X9_forget_w0)) (show GoodIn zw_zd_X9_isStoredKnown (.code yX9_forget cX9_forget 2 none :: (zw_zd_X9_forget_w0)) from goodIn_app zg_zd_X9_isStoredKnown_zd_X9_forget_140_c (zg_zd_X9_isStoredKnown_zd_X9_forget_140_0)) (fun w h => ⟨(fun _ h => List.mem_cons_of_mem _ (List.mem_append_left _ (List.mem_append_right _ h))) w h, good_of_word (List.all_eq_true.mp zgw_X9 w h)⟩))
set_option maxRecDepth 100000 in
theorem zg_zd_X9_isStoredKnown_zd_X9_worthOf_157_a : GoodIn zw_zd_X9_isStoredKnown [.methodLink RX9 157 yX9_worthOf, .instanceMethod yX9_worthOf, .selects RX9 yX9_worthOf yX9_worthOf, .initialized RX9] := goodIn_r _ [14, 15, 16, 6] rfl (by decide +kernel)
set_option maxRecDepth 100000 in
theorem zg_zd_X9_isStoredKnown_zd_X9_worthOf_157_c : GoodIn zw_zd_X9_isStoredKnown [.code yX9_worthOf cX9_worthOf 2 (some .int)] := goodIn_r _ [12] rfl (by decide +kernel)
set_option maxRecDepth 100000 in
theorem zg_zd_X9_isStoredKnown_zd_X9_worthOf_157_0 : GoodIn zw_zd_X9_isStoredKnown zw_zd_X9_worthOf_w0 := goodIn_r _ [13] rfl (by decide +kernel)
theorem zg_zd_X9_isStoredKnown_zd_X9_worthOf_157 : GoodIn zw_zd_X9_isStoredKnown (wsV RX9 157 RX9 yX9_worthOf zw_zd_X9_worthOf) := goodIn_app zg_zd_X9_isStoredKnown_zd_X9_worthOf_157_a (goodIn_ca (a := (zw_zd_X9_worthOf_w0)) (show GoodIn zw_zd_X9_isStoredKnown (.code yX9_worthOf cX9_worthOf 2 (some .int) :: (zw_zd_X9_worthOf_w0)) from goodIn_app zg_zd_X9_isStoredKnown_zd_X9_worthOf_157_c (zg_zd_X9_isStoredKnown_zd_X9_worthOf_157_0)) (fun w h => ⟨(fun _ h => List.mem_cons_of_mem _ (List.mem_append_left _ (List.mem_append_right _ h))) w h, good_of_word (List.all_eq_true.mp zgw_X9 w h)⟩))
set_option maxRecDepth 100000 in
theorem zg_zd_X9_isStoredKnown_zd_X3_add_121_a : GoodIn zw_zd_X9_isStoredKnown [.methodLink RX9 121 yX3_add, .instanceMethod yX3_add, .selects RX3 yX3_add yX3_add, .initialized RX3] := goodIn_r _ [20, 21, 22, 23] rfl (by decide +kernel)
set_option maxRecDepth 100000 in
theorem zg_zd_X9_isStoredKnown_zd_X3_add_121_c : GoodIn zw_zd_X9_isStoredKnown [.code yX3_add cX3_add 7 none] := goodIn_r _ [17] rfl (by decide +kernel)
set_option maxRecDepth 100000 in
theorem zg_zd_X9_isStoredKnown_zd_X3_add_121_0 : GoodIn zw_zd_X9_isStoredKnown zw_zd_X3_add_w0 := goodIn_r _ [18, 19] rfl (by decide +kernel)
theorem zg_zd_X9_isStoredKnown_zd_X3_add_121 : GoodIn zw_zd_X9_isStoredKnown (wsV RX9 121 RX3 yX3_add zw_zd_X3_add) := goodIn_app zg_zd_X9_isStoredKnown_zd_X3_add_121_a (goodIn_ca (a := (zw_zd_X3_add_w0)) (show GoodIn zw_zd_X9_isStoredKnown (.code yX3_add cX3_add 7 none :: (zw_zd_X3_add_w0)) from goodIn_app zg_zd_X9_isStoredKnown_zd_X3_add_121_c (zg_zd_X9_isStoredKnown_zd_X3_add_121_0)) (fun w h => ⟨(fun _ h => List.mem_cons_of_mem _ (List.mem_append_right _ h)) w h, good_of_word (List.all_eq_true.mp zgw_X3 w h)⟩))
set_option maxRecDepth 100000 in
theorem zg_zd_X9_isStoredKnown_zd_X9_know_125_a : GoodIn zw_zd_X9_isStoredKnown [.methodLink RX9 125 yX9_know, .instanceMethod yX9_know, .selects RX9 yX9_know yX9_know, .initialized RX9] := goodIn_r _ [25, 26, 27, 6] rfl (by decide +kernel)
set_option maxRecDepth 100000 in
theorem zg_zd_X9_isStoredKnown_zd_X9_know_125_c : GoodIn zw_zd_X9_isStoredKnown [.code yX9_know cX9_know 3 none] := goodIn_r _ [24] rfl (by decide +kernel)
set_option maxRecDepth 100000 in
theorem zg_zd_X9_isStoredKnown_zd_X9_know_125_0 : GoodIn zw_zd_X9_isStoredKnown zw_zd_X9_know_w0 := goodIn_r _ [2, 13] rfl (by decide +kernel)
theorem zg_zd_X9_isStoredKnown_zd_X9_know_125 : GoodIn zw_zd_X9_isStoredKnown (wsV RX9 125 RX9 yX9_know zw_zd_X9_know) := goodIn_app zg_zd_X9_isStoredKnown_zd_X9_know_125_a (goodIn_ca (a := (zw_zd_X9_know_w0)) (show GoodIn zw_zd_X9_isStoredKnown (.code yX9_know cX9_know 3 none :: (zw_zd_X9_know_w0)) from goodIn_app zg_zd_X9_isStoredKnown_zd_X9_know_125_c (zg_zd_X9_isStoredKnown_zd_X9_know_125_0)) (fun w h => ⟨(fun _ h => List.mem_cons_of_mem _ (List.mem_append_left _ (List.mem_append_right _ h))) w h, good_of_word (List.all_eq_true.mp zgw_X9 w h)⟩))
set_option maxHeartbeats 16000000 in
set_option maxRecDepth 100000 in
theorem zd_X9_isStoredKnown (l : Launch) (D : va_G) (cI cZ cP cF : Nat) (q : Nat → Nat → Nat) (S : CST) (a1 : Int32) (a2 : Int32) (a3 : Int32) (sz : Nat) (Post : CST → Int32 → Prop) (h : wp_X9_isStoredKnown S a1 a2 a3 Post) : Met l yX9_isStoredKnown zw_zd_X9_isStoredKnown ({ frames := 1, cells := 0, slots := 0, locals := 26 }) (va_Pc [.ref (q 15 0), .int a1, .int a2, .int a3] (fun U => U.heap.size = sz ∧ va_P D vwCl (cW cI cZ cP cF q S) U.heap ∧ zF D cI cZ cP cF U ∧ va_D (fun _ => True) (cW cI cZ cP cF q S))) (va_Qi (fun r S' => Post S' r) (fun (S' : CST) t => va_P D vwCl (cW cI cZ cP cF q S') t.heap ∧ va_D (va_A (cW cI cZ cP cF q S) sz) (cW cI cZ cP cF q S') ∧ S'.2 = S.2) (va_A (cW cI cZ cP cF q S) sz)) 0 0 (va_A (cW cI cZ cP cF q S) sz) := by
  unfold wp_X9_isStoredKnown at h
  refine Met.ofW (cc := cX9_isStoredKnown) (maxL := 4) (ret := (some .boolean)) (by decide) rfl ?_
  intro p e s m args below meth c s₁ B hml hv
  obtain ⟨rfl, hsz, hP, hE, hD0⟩ := hv
  have hx := B.exec
  have hb := B.bytes
  have hr := B.returns
  have hts := atoms_spec (ws := zw_zd_X9_isStoredKnown) B.pre
  have hown : s.vm.findClass RX9 = some m.cls := findClass_of_methodNamed B.named
  have hlocks := B.notSynchronized
  have hK := hE.k
  subst hsz
  have hD := hD0.self (sz := s.heap.size)
  generalize hAe : va_A (cW cI cZ cP cF q S) s.heap.size = A at hD ⊢
  have hA : ∀ q : Nat, s.heap.size ≤ q → A q := fun q h => by rw [← hAe]; exact Or.inr h
  have hN : S.2 = S.2 := rfl
  have hl := lv_entry ([.ref (q 15 0), .int a1, .int a2, .int a3]) (n := 4) (Nat.le_of_ble_eq_true rfl)
  rw [lg_entry_eq]
  generalize (lg_sl ([.ref (q 15 0), .int a1, .int a2, .int a3]) ++ List.replicate (4 - (lg_sl ([.ref (q 15 0), .int a1, .int a2, .int a3])).length) Slot.unset).toArray = ls at hl ⊢
  have hl : lv_has ls 4 [(0, .ref (q 15 0)), (1, .int a1), (2, .int a2), (3, .int a3)] := hl
  have key : ∀ (H : Heap) (locs : List Loc), va_P D vwCl (cW cI cZ cP cF q S) H → va_S A s.heap H locs → W p l e (headSpec zw_zd_X9_isStoredKnown ({ frames := 1, cells := 0, slots := 0, locals := 26 })).room s m ([.ref (q 15 0), .int a1, .int a2, .int a3] : List Value).toArray below meth c H locs 0 0 (MQ below (va_Qi (fun r S' => Post S' r) (fun (S' : CST) t => va_P D vwCl (cW cI cZ cP cF q S') t.heap ∧ va_D A (cW cI cZ cP cF q S') ∧ S'.2 = S.2) A) ([.ref (q 15 0), .int a1, .int a2, .int a3] : List Value).toArray s 0 0 A) (F0 m 0 ls []) := by
    intro H locs hP hS
    refine lv_aload_n hx hb dX9_isStoredKnown_0 rfl (lv_at hl 0 rfl) ?_
    refine lv_iload_n hx hb dX9_isStoredKnown_1 rfl (lv_at hl 2 rfl) ?_
    obtain ⟨p_1, hp_1⟩ := cget_15 cI cZ cP cF q S
    have hi_1 : cin S 15 0 := Or.inl ⟨by decide, rfl⟩
    refine vp_callSi (va_Run.run (va_runV (As := [.int a2]) (rest := []) ⟨hx, hb, hml, hown, hts⟩ (zd_X9_isKnown l D cI cZ cP cF q S a2  _ h) (cwV 1 hts zg_zd_X9_isStoredKnown_zd_X9_isKnown_154 rfl rfl rfl (by decide +kernel) ⟨Nat.le_of_ble_eq_true rfl, Nat.le_of_ble_eq_true rfl⟩) ⟨zCR, va_recv hK hP (ci := 9) (q0 := p_1) rfl hp_1, fun U hU hW => ⟨rfl, by rw [hU]; exact hP, hE.warm hW⟩⟩ rfl rfl hl.1 rfl (lv_room (Nat.le_of_ble_eq_true rfl)) dX9_isStoredKnown_2 ⟨Nat.le_of_ble_eq_true rfl, Nat.le_of_ble_eq_true rfl⟩)) (fun r2 h => ?_)
    refine lv_if_eq (tgt := 41) hx hb dX9_isStoredKnown_5 (by decide) (fun c_3 => ?_) (fun c_3 => ?_)
    · have h := h.1 c_3
      refine lv_aload_n hx hb dX9_isStoredKnown_41 rfl (lv_at hl 0 rfl) ?_
      refine lv_iload_n hx hb dX9_isStoredKnown_42 rfl (lv_at hl 1 rfl) ?_
      obtain ⟨p_4, hp_4⟩ := cget_15 cI cZ cP cF q S
      have hi_4 : cin S 15 0 := Or.inl ⟨by decide, rfl⟩
      have hFc := zm_free hD hS hA
      refine va_callv (va_runV (As := [.int a1]) (rest := []) ⟨hx, hb, hml, hown, hts⟩ (zd_X9_forget l D cI cZ cP cF q S a1 H.size _ h) (cwV 1 hts zg_zd_X9_isStoredKnown_zd_X9_forget_140 rfl rfl rfl (by decide +kernel) ⟨Nat.le_of_ble_eq_true rfl, Nat.le_of_ble_eq_true rfl⟩) ⟨zCW, va_recv hK hP (ci := 9) (q0 := p_4) rfl hp_4, fun U hU hW => ⟨rfl, by rw [hU], by rw [hU]; exact hP, hE.warm hW, hD.weaken (fun _ _ _ _ => trivial)⟩⟩ rfl rfl hl.1 rfl (lv_room (Nat.le_of_ble_eq_true rfl)) dX9_isStoredKnown_43 ⟨Nat.le_of_ble_eq_true rfl, Nat.le_of_ble_eq_true rfl⟩) hS (fun q _ h => hFc q h) hFc (fun S5 t H locs ht hvm h hB hz1 hk1 hS => ?_)
      obtain ⟨hP, hD1, hN1⟩ := hB
      rw [ht] at hP
      have hD := hD1.weaken (fun k q _ hq => hFc q.1 hq)
      have hN := hN1.trans hN
      refine lv_iconst (v := 0) hx hb dX9_isStoredKnown_46 (by decide) ?_
      exact W.zret (v := 0) (ty := .boolean) hx hb hr (by decide) (fun t ht hW => ⟨⟨_, S5, rfl, h, by rw [ht]; exact hP, hD, hN⟩, hS.F ht⟩) hS.2.2 dX9_isStoredKnown_47
    · have h := h.2 c_3
      refine lv_aload_n hx hb dX9_isStoredKnown_8 rfl (lv_at hl 0 rfl) ?_
      obtain ⟨p_6, hp_6⟩ := cget_15 cI cZ cP cF q S
      have hi_6 : cin S 15 0 := Or.inl ⟨by decide, rfl⟩
      refine va_get (D := D) (ci := 9) (v := .ref (q 7 0)) (C := RX9) (T := TX9) (N := 5) hx hb hts (fun _ h => List.mem_cons_of_mem _ (List.mem_append_left _ (List.mem_append_right _ h))) hown hK hP p_6 hp_6 rfl 0 (by decide) (hts (.fieldLink RX9 25 "TemplateForge$Smith" "draft" "LTemplateForge$Draft;") (List.mem_of_getElem? (i := 11) rfl)) (fun _ h9 => h9) rfl dX9_isStoredKnown_9 ?_
      refine lv_iconst (v := 0) hx hb dX9_isStoredKnown_12 (by decide) ?_
      refine lv_iload_n hx hb dX9_isStoredKnown_13 rfl (lv_at hl 1 rfl) ?_
      refine lv_aload_n hx hb dX9_isStoredKnown_14 rfl (lv_at hl 0 rfl) ?_
      refine lv_iload_n hx hb dX9_isStoredKnown_15 rfl (lv_at hl 2 rfl) ?_
      obtain ⟨p_7, hp_7⟩ := cget_15 cI cZ cP cF q S
      have hi_7 : cin S 15 0 := Or.inl ⟨by decide, rfl⟩
      refine vp_callSi (va_Run.run (va_runV (As := [.int a2]) (rest := [.int a1, .int 0, .ref (q 7 0)]) ⟨hx, hb, hml, hown, hts⟩ (zd_X9_worthOf l D cI cZ cP cF q S a2  _ h) (cwV 1 hts zg_zd_X9_isStoredKnown_zd_X9_worthOf_157 rfl rfl rfl (by decide +kernel) ⟨Nat.le_of_ble_eq_true rfl, Nat.le_of_ble_eq_true rfl⟩) ⟨zCR, va_recv hK hP (ci := 9) (q0 := p_7) rfl hp_7, fun U hU hW => ⟨rfl, by rw [hU]; exact hP, hE.warm hW⟩⟩ rfl rfl hl.1 rfl (lv_room (Nat.le_of_ble_eq_true rfl)) dX9_isStoredKnown_16 ⟨Nat.le_of_ble_eq_true rfl, Nat.le_of_ble_eq_true rfl⟩)) (fun r8 h => ?_)
      refine lv_iconst (v := 0) hx hb dX9_isStoredKnown_19 (by decide) ?_
      refine lv_iload_n hx hb dX9_isStoredKnown_20 rfl (lv_at hl 3 rfl) ?_
      obtain ⟨p_9, hp_9⟩ := cget_7 cI cZ cP cF q S
      have hi_9 : cin S 7 0 := Or.inl ⟨by decide, rfl⟩
      have hFc := zm_free hD hS hA
      refine va_callv (va_runV (As := [.int 0, .int a1, .int r8, .int 0, .int a3]) (rest := []) ⟨hx, hb, hml, hown, hts⟩ (zd_X3_add l D cI cZ cP cF q S 0 a1 r8 0 a3 H.size _ h) (cwV 5 hts zg_zd_X9_isStoredKnown_zd_X3_add_121 rfl rfl rfl (by decide +kernel) ⟨Nat.le_of_ble_eq_true rfl, Nat.le_of_ble_eq_true rfl⟩) ⟨zCW, va_recv hK hP (ci := 3) (q0 := p_9) rfl hp_9, fun U hU hW => ⟨rfl, by rw [hU], by rw [hU]; exact hP, hE.warm hW, hD.weaken (fun _ _ _ _ => trivial)⟩⟩ rfl rfl hl.1 rfl (lv_room (Nat.le_of_ble_eq_true rfl)) dX9_isStoredKnown_21 ⟨Nat.le_of_ble_eq_true rfl, Nat.le_of_ble_eq_true rfl⟩) hS (fun q _ h => hFc q h) hFc (fun S10 t H locs ht hvm h hB hz1 hk1 hS => ?_)
      obtain ⟨hP, hD1, hN1⟩ := hB
      rw [ht] at hP
      have hD := hD1.weaken (fun k q _ hq => hFc q.1 hq)
      have hN := hN1.trans hN
      refine lv_aload_n hx hb dX9_isStoredKnown_24 rfl (lv_at hl 0 rfl) ?_
      refine lv_iload_n hx hb dX9_isStoredKnown_25 rfl (lv_at hl 1 rfl) ?_
      refine lv_aload_n hx hb dX9_isStoredKnown_26 rfl (lv_at hl 0 rfl) ?_
      refine lv_iload_n hx hb dX9_isStoredKnown_27 rfl (lv_at hl 2 rfl) ?_
      obtain ⟨p_11, hp_11⟩ := cget_15 cI cZ cP cF q S10
      have hi_11 : cin S10 15 0 := Or.inl ⟨by decide, rfl⟩
      refine vp_callSi (va_Run.run (va_runV (As := [.int a2]) (rest := [.int a1, .ref (q 15 0)]) ⟨hx, hb, hml, hown, hts⟩ (zd_X9_worthOf l D cI cZ cP cF q S10 a2  _ h) (cwV 1 hts zg_zd_X9_isStoredKnown_zd_X9_worthOf_157 rfl rfl rfl (by decide +kernel) ⟨Nat.le_of_ble_eq_true rfl, Nat.le_of_ble_eq_true rfl⟩) ⟨zCR, va_recv hK hP (ci := 9) (q0 := p_11) rfl hp_11, fun U hU hW => ⟨rfl, by rw [hU]; exact hP, hE.warm hW⟩⟩ rfl rfl hl.1 rfl (lv_room (Nat.le_of_ble_eq_true rfl)) dX9_isStoredKnown_28 ⟨Nat.le_of_ble_eq_true rfl, Nat.le_of_ble_eq_true rfl⟩)) (fun r12 h => ?_)
      obtain ⟨p_13, hp_13⟩ := cget_15 cI cZ cP cF q S10
      have hi_13 : cin S10 15 0 := Or.inl ⟨by decide, rfl⟩
      have hFc := zm_free hD hS hA
      refine va_callv (va_runV (As := [.int a1, .int r12]) (rest := []) ⟨hx, hb, hml, hown, hts⟩ (zd_X9_know l D cI cZ cP cF q S10 a1 r12 H.size _ h) (cwV 2 hts zg_zd_X9_isStoredKnown_zd_X9_know_125 rfl rfl rfl (by decide +kernel) ⟨Nat.le_of_ble_eq_true rfl, Nat.le_of_ble_eq_true rfl⟩) ⟨zCW, va_recv hK hP (ci := 9) (q0 := p_13) rfl hp_13, fun U hU hW => ⟨rfl, by rw [hU], by rw [hU]; exact hP, hE.warm hW, hD.weaken (fun _ _ _ _ => trivial)⟩⟩ rfl rfl hl.1 rfl (lv_room (Nat.le_of_ble_eq_true rfl)) dX9_isStoredKnown_31 ⟨Nat.le_of_ble_eq_true rfl, Nat.le_of_ble_eq_true rfl⟩) hS (fun q _ h => hFc q h) hFc (fun S14 t H locs ht hvm h hB hz1 hk1 hS => ?_)
      obtain ⟨hP, hD1, hN1⟩ := hB
      rw [ht] at hP
      have hD := hD1.weaken (fun k q _ hq => hFc q.1 hq)
      have hN := hN1.trans hN
      refine lv_aload_n hx hb dX9_isStoredKnown_34 rfl (lv_at hl 0 rfl) ?_
      refine lv_iload_n hx hb dX9_isStoredKnown_35 rfl (lv_at hl 2 rfl) ?_
      obtain ⟨p_15, hp_15⟩ := cget_15 cI cZ cP cF q S14
      have hi_15 : cin S14 15 0 := Or.inl ⟨by decide, rfl⟩
      have hFc := zm_free hD hS hA
      refine va_callv (va_runV (As := [.int a2]) (rest := []) ⟨hx, hb, hml, hown, hts⟩ (zd_X9_forget l D cI cZ cP cF q S14 a2 H.size _ h) (cwV 1 hts zg_zd_X9_isStoredKnown_zd_X9_forget_140 rfl rfl rfl (by decide +kernel) ⟨Nat.le_of_ble_eq_true rfl, Nat.le_of_ble_eq_true rfl⟩) ⟨zCW, va_recv hK hP (ci := 9) (q0 := p_15) rfl hp_15, fun U hU hW => ⟨rfl, by rw [hU], by rw [hU]; exact hP, hE.warm hW, hD.weaken (fun _ _ _ _ => trivial)⟩⟩ rfl rfl hl.1 rfl (lv_room (Nat.le_of_ble_eq_true rfl)) dX9_isStoredKnown_36 ⟨Nat.le_of_ble_eq_true rfl, Nat.le_of_ble_eq_true rfl⟩) hS (fun q _ h => hFc q h) hFc (fun S16 t H locs ht hvm h hB hz1 hk1 hS => ?_)
      obtain ⟨hP, hD1, hN1⟩ := hB
      rw [ht] at hP
      have hD := hD1.weaken (fun k q _ hq => hFc q.1 hq)
      have hN := hN1.trans hN
      refine lv_iconst (v := 1) hx hb dX9_isStoredKnown_39 (by decide) ?_
      exact W.zret (v := 1) (ty := .boolean) hx hb hr (by decide) (fun t ht hW => ⟨⟨_, S16, rfl, h, by rw [ht]; exact hP, hD, hN⟩, hS.F ht⟩) hS.2.2 dX9_isStoredKnown_40
  exact key _ _ hP va_S.rf

def wp_X10_noteTrap (S : CST) (a1 : Int32) (a2 : Int32) (a3 : Int32) (a4 : Int32) (Post : CST → Prop) : Prop :=
  vp_in 0 4 ∧ (∀ S3 : CST, S3 = cs S 210 0 (upd (cv S 210 0) (0 : Int32).toNatClampNeg a1) → (vp_in 1 4 ∧ (∀ S6 : CST, S6 = cs S3 210 0 (upd (cv S3 210 0) (1 : Int32).toNatClampNeg a2) → (vp_in 2 4 ∧ (∀ S9 : CST, S9 = cs S6 210 0 (upd (cv S6 210 0) (2 : Int32).toNatClampNeg a3) → (vp_in 3 4 ∧ (∀ S12 : CST, S12 = cs S9 210 0 (upd (cv S9 210 0) (3 : Int32).toNatClampNeg a4) → (Post S12))))))))
def zw_zd_X10_noteTrap_w0 : List Cond := [.fieldLink RX10 9 "TemplateForge$Tally" "trap" "[I"]
def zw_zd_X10_noteTrap : List Cond := .code yX10_noteTrap cX10_noteTrap 5 none :: ((zw_zd_X10_noteTrap_w0) ++ wsX100)
set_option maxHeartbeats 16000000 in
set_option maxRecDepth 100000 in
theorem zd_X10_noteTrap (l : Launch) (D : va_G) (cI cZ cP cF : Nat) (q : Nat → Nat → Nat) (S : CST) (a1 : Int32) (a2 : Int32) (a3 : Int32) (a4 : Int32) (sz : Nat) (Post : CST → Prop) (h : wp_X10_noteTrap S a1 a2 a3 a4 Post) : Met l yX10_noteTrap zw_zd_X10_noteTrap ({ frames := 0, cells := 0, slots := 0, locals := 0 }) (va_Pc [.ref (q 20 0), .int a1, .int a2, .int a3, .int a4] (fun U => U.heap.size = sz ∧ va_P D vwCl (cW cI cZ cP cF q S) U.heap ∧ zF D cI cZ cP cF U ∧ va_D (fun _ => True) (cW cI cZ cP cF q S))) (va_Qv (fun S' => Post S') (fun (S' : CST) t => va_P D vwCl (cW cI cZ cP cF q S') t.heap ∧ va_D (va_A (cW cI cZ cP cF q S) sz) (cW cI cZ cP cF q S') ∧ S'.2 = S.2) (va_A (cW cI cZ cP cF q S) sz)) 0 0 (va_A (cW cI cZ cP cF q S) sz) := by
  unfold wp_X10_noteTrap at h
  refine Met.ofW (cc := cX10_noteTrap) (maxL := 5) (ret := none) (by decide) rfl ?_
  intro p e s m args below meth c s₁ B hml hv
  obtain ⟨rfl, hsz, hP, hE, hD0⟩ := hv
  have hx := B.exec
  have hb := B.bytes
  have hr := B.returns
  have hts := atoms_spec (ws := zw_zd_X10_noteTrap) B.pre
  have hown : s.vm.findClass RX10 = some m.cls := findClass_of_methodNamed B.named
  have hlocks := B.notSynchronized
  have hK := hE.k
  subst hsz
  have hD := hD0.self (sz := s.heap.size)
  generalize hAe : va_A (cW cI cZ cP cF q S) s.heap.size = A at hD ⊢
  have hA : ∀ q : Nat, s.heap.size ≤ q → A q := fun q h => by rw [← hAe]; exact Or.inr h
  have hN : S.2 = S.2 := rfl
  have hl := lv_entry ([.ref (q 20 0), .int a1, .int a2, .int a3, .int a4]) (n := 5) (Nat.le_of_ble_eq_true rfl)
  rw [lg_entry_eq]
  generalize (lg_sl ([.ref (q 20 0), .int a1, .int a2, .int a3, .int a4]) ++ List.replicate (5 - (lg_sl ([.ref (q 20 0), .int a1, .int a2, .int a3, .int a4])).length) Slot.unset).toArray = ls at hl ⊢
  have hl : lv_has ls 5 [(0, .ref (q 20 0)), (1, .int a1), (2, .int a2), (3, .int a3), (4, .int a4)] := hl
  have key : ∀ (H : Heap) (locs : List Loc), va_P D vwCl (cW cI cZ cP cF q S) H → va_S A s.heap H locs → W p l e (headSpec zw_zd_X10_noteTrap ({ frames := 0, cells := 0, slots := 0, locals := 0 })).room s m ([.ref (q 20 0), .int a1, .int a2, .int a3, .int a4] : List Value).toArray below meth c H locs 0 0 (MQ below (va_Qv (fun S' => Post S') (fun (S' : CST) t => va_P D vwCl (cW cI cZ cP cF q S') t.heap ∧ va_D A (cW cI cZ cP cF q S') ∧ S'.2 = S.2) A) ([.ref (q 20 0), .int a1, .int a2, .int a3, .int a4] : List Value).toArray s 0 0 A) (F0 m 0 ls []) := by
    intro H locs hP hS
    refine lv_aload_n hx hb dX10_noteTrap_0 rfl (lv_at hl 0 rfl) ?_
    obtain ⟨p_1, hp_1⟩ := cget_20 cI cZ cP cF q S
    have hi_1 : cin S 20 0 := Or.inl ⟨by decide, rfl⟩
    refine va_get (D := D) (ci := 10) (v := .ref (q 21 0)) (C := RX10) (T := TX10) (N := 7) hx hb hts (fun _ h => List.mem_cons_of_mem _ (List.mem_append_right _ h)) hown hK hP p_1 hp_1 rfl 6 (by decide) (hts (.fieldLink RX10 9 "TemplateForge$Tally" "trap" "[I") (List.mem_of_getElem? (i := 1) rfl)) (fun _ h9 => h9) rfl dX10_noteTrap_1 ?_
    refine lv_iconst (v := 0) hx hb dX10_noteTrap_4 (by decide) ?_
    refine lv_iload_n hx hb dX10_noteTrap_5 rfl (lv_at hl 1 rfl) ?_
    obtain ⟨p_2, hp_2⟩ := cget_21 cI cZ cP cF q S
    have hi_2 : cin S 21 0 := Or.inl ⟨by decide, rfl⟩
    have hin_2 := h.1
    have h := h.2
    have hD0_2 := hD
    refine va_iast hx hb hK hP hD hS p_2 0 hp_2 rfl hin_2 dX10_noteTrap_6 (fun H locs hP hD hS => ?_)
    obtain ⟨S3, eS3⟩ : ∃ z, z = cs S 210 0 (upd (cv S 210 0) (0 : Int32).toNatClampNeg a1) := ⟨_, rfl⟩
    have hP : va_P D vwCl (cW cI cZ cP cF q S3) H := by rw [eS3, ← cW_put (k := 210) (κ := 21) (i := 0) (g := (upd (cv S 210 0) (0 : Int32).toNatClampNeg a1)) rfl hD0_2 hp_2 hi_2, cput_210]; exact hP
    have hD : va_D A (cW cI cZ cP cF q S3) := by rw [eS3, ← cW_put (k := 210) (κ := 21) (i := 0) (g := (upd (cv S 210 0) (0 : Int32).toNatClampNeg a1)) rfl hD0_2 hp_2 hi_2, cput_210]; exact hD
    have hN : S3.2 = S.2 := by rw [eS3]; exact hN
    have h := h S3 eS3
    refine lv_aload_n hx hb dX10_noteTrap_7 rfl (lv_at hl 0 rfl) ?_
    obtain ⟨p_4, hp_4⟩ := cget_20 cI cZ cP cF q S3
    have hi_4 : cin S3 20 0 := Or.inl ⟨by decide, rfl⟩
    refine va_get (D := D) (ci := 10) (v := .ref (q 21 0)) (C := RX10) (T := TX10) (N := 7) hx hb hts (fun _ h => List.mem_cons_of_mem _ (List.mem_append_right _ h)) hown hK hP p_4 hp_4 rfl 6 (by decide) (hts (.fieldLink RX10 9 "TemplateForge$Tally" "trap" "[I") (List.mem_of_getElem? (i := 1) rfl)) (fun _ h9 => h9) rfl dX10_noteTrap_8 ?_
    refine lv_iconst (v := 1) hx hb dX10_noteTrap_11 (by decide) ?_
    refine lv_iload_n hx hb dX10_noteTrap_12 rfl (lv_at hl 2 rfl) ?_
    obtain ⟨p_5, hp_5⟩ := cget_21 cI cZ cP cF q S3
    have hi_5 : cin S3 21 0 := Or.inl ⟨by decide, rfl⟩
    have hin_5 := h.1
    have h := h.2
    have hD0_5 := hD
    refine va_iast hx hb hK hP hD hS p_5 0 hp_5 rfl hin_5 dX10_noteTrap_13 (fun H locs hP hD hS => ?_)
    obtain ⟨S6, eS6⟩ : ∃ z, z = cs S3 210 0 (upd (cv S3 210 0) (1 : Int32).toNatClampNeg a2) := ⟨_, rfl⟩
    have hP : va_P D vwCl (cW cI cZ cP cF q S6) H := by rw [eS6, ← cW_put (k := 210) (κ := 21) (i := 0) (g := (upd (cv S3 210 0) (1 : Int32).toNatClampNeg a2)) rfl hD0_5 hp_5 hi_5, cput_210]; exact hP
    have hD : va_D A (cW cI cZ cP cF q S6) := by rw [eS6, ← cW_put (k := 210) (κ := 21) (i := 0) (g := (upd (cv S3 210 0) (1 : Int32).toNatClampNeg a2)) rfl hD0_5 hp_5 hi_5, cput_210]; exact hD
    have hN : S6.2 = S.2 := by rw [eS6]; exact hN
    have h := h S6 eS6
    refine lv_aload_n hx hb dX10_noteTrap_14 rfl (lv_at hl 0 rfl) ?_
    obtain ⟨p_7, hp_7⟩ := cget_20 cI cZ cP cF q S6
    have hi_7 : cin S6 20 0 := Or.inl ⟨by decide, rfl⟩
    refine va_get (D := D) (ci := 10) (v := .ref (q 21 0)) (C := RX10) (T := TX10) (N := 7) hx hb hts (fun _ h => List.mem_cons_of_mem _ (List.mem_append_right _ h)) hown hK hP p_7 hp_7 rfl 6 (by decide) (hts (.fieldLink RX10 9 "TemplateForge$Tally" "trap" "[I") (List.mem_of_getElem? (i := 1) rfl)) (fun _ h9 => h9) rfl dX10_noteTrap_15 ?_
    refine lv_iconst (v := 2) hx hb dX10_noteTrap_18 (by decide) ?_
    refine lv_iload_n hx hb dX10_noteTrap_19 rfl (lv_at hl 3 rfl) ?_
    obtain ⟨p_8, hp_8⟩ := cget_21 cI cZ cP cF q S6
    have hi_8 : cin S6 21 0 := Or.inl ⟨by decide, rfl⟩
    have hin_8 := h.1
    have h := h.2
    have hD0_8 := hD
    refine va_iast hx hb hK hP hD hS p_8 0 hp_8 rfl hin_8 dX10_noteTrap_20 (fun H locs hP hD hS => ?_)
    obtain ⟨S9, eS9⟩ : ∃ z, z = cs S6 210 0 (upd (cv S6 210 0) (2 : Int32).toNatClampNeg a3) := ⟨_, rfl⟩
    have hP : va_P D vwCl (cW cI cZ cP cF q S9) H := by rw [eS9, ← cW_put (k := 210) (κ := 21) (i := 0) (g := (upd (cv S6 210 0) (2 : Int32).toNatClampNeg a3)) rfl hD0_8 hp_8 hi_8, cput_210]; exact hP
    have hD : va_D A (cW cI cZ cP cF q S9) := by rw [eS9, ← cW_put (k := 210) (κ := 21) (i := 0) (g := (upd (cv S6 210 0) (2 : Int32).toNatClampNeg a3)) rfl hD0_8 hp_8 hi_8, cput_210]; exact hD
    have hN : S9.2 = S.2 := by rw [eS9]; exact hN
    have h := h S9 eS9
    refine lv_aload_n hx hb dX10_noteTrap_21 rfl (lv_at hl 0 rfl) ?_
    obtain ⟨p_10, hp_10⟩ := cget_20 cI cZ cP cF q S9
    have hi_10 : cin S9 20 0 := Or.inl ⟨by decide, rfl⟩
    refine va_get (D := D) (ci := 10) (v := .ref (q 21 0)) (C := RX10) (T := TX10) (N := 7) hx hb hts (fun _ h => List.mem_cons_of_mem _ (List.mem_append_right _ h)) hown hK hP p_10 hp_10 rfl 6 (by decide) (hts (.fieldLink RX10 9 "TemplateForge$Tally" "trap" "[I") (List.mem_of_getElem? (i := 1) rfl)) (fun _ h9 => h9) rfl dX10_noteTrap_22 ?_
    refine lv_iconst (v := 3) hx hb dX10_noteTrap_25 (by decide) ?_
    refine lv_iload hx hb dX10_noteTrap_26 (lv_at hl 4 rfl) ?_
    obtain ⟨p_11, hp_11⟩ := cget_21 cI cZ cP cF q S9
    have hi_11 : cin S9 21 0 := Or.inl ⟨by decide, rfl⟩
    have hin_11 := h.1
    have h := h.2
    have hD0_11 := hD
    refine va_iast hx hb hK hP hD hS p_11 0 hp_11 rfl hin_11 dX10_noteTrap_28 (fun H locs hP hD hS => ?_)
    obtain ⟨S12, eS12⟩ : ∃ z, z = cs S9 210 0 (upd (cv S9 210 0) (3 : Int32).toNatClampNeg a4) := ⟨_, rfl⟩
    have hP : va_P D vwCl (cW cI cZ cP cF q S12) H := by rw [eS12, ← cW_put (k := 210) (κ := 21) (i := 0) (g := (upd (cv S9 210 0) (3 : Int32).toNatClampNeg a4)) rfl hD0_11 hp_11 hi_11, cput_210]; exact hP
    have hD : va_D A (cW cI cZ cP cF q S12) := by rw [eS12, ← cW_put (k := 210) (κ := 21) (i := 0) (g := (upd (cv S9 210 0) (3 : Int32).toNatClampNeg a4)) rfl hD0_11 hp_11 hi_11, cput_210]; exact hD
    have hN : S12.2 = S.2 := by rw [eS12]; exact hN
    have h := h S12 eS12
    exact W.vret hx hb hr (fun t ht hW => ⟨⟨S12, rfl, h, by rw [ht]; exact hP, hD, hN⟩, hS.F ht⟩) hS.2.2 dX10_noteTrap_29
  exact key _ _ hP va_S.rf

def wp_X10_beginRun (S : CST) (Post : CST → Prop) : Prop :=
  ∀ S3 : CST, S3 = cs S 200 0 (fun _ => (cv S 200 0 0) + 1) → (∀ S5 : CST, S5 = cs S3 201 0 (fun _ => 0) → (∀ S7 : CST, S7 = cs S5 202 0 (fun _ => 0) → (∀ S9 : CST, S9 = cs S7 203 0 (fun _ => 0) → (∀ S11 : CST, S11 = cs S9 204 0 (fun _ => 0) → (∀ S13 : CST, S13 = cs S11 205 0 (fun _ => 0) → (wp_X10_noteTrap S13 0 0 0 0 (fun S15 => Post S15)))))))
def zw_zd_X10_beginRun_w0 : List Cond := [.fieldLink RX10 15 "TemplateForge$Tally" "runs" "I", .fieldLink RX10 19 "TemplateForge$Tally" "steps" "I", .fieldLink RX10 22 "TemplateForge$Tally" "calls" "I", .fieldLink RX10 25 "TemplateForge$Tally" "coded" "I", .fieldLink RX10 28 "TemplateForge$Tally" "failed" "I", .fieldLink RX10 31 "TemplateForge$Tally" "returned" "I", .code yX10_noteTrap cX10_noteTrap 5 none, .fieldLink RX10 9 "TemplateForge$Tally" "trap" "[I", .methodLink RX10 34 yX10_noteTrap, .instanceMethod yX10_noteTrap, .selects RX10 yX10_noteTrap yX10_noteTrap, .initialized RX10]
def zw_zd_X10_beginRun : List Cond := .code yX10_beginRun cX10_beginRun 1 none :: ((zw_zd_X10_beginRun_w0) ++ wsX100)
set_option maxRecDepth 100000 in
theorem zg_zd_X10_beginRun_zd_X10_noteTrap_34_a : GoodIn zw_zd_X10_beginRun [.methodLink RX10 34 yX10_noteTrap, .instanceMethod yX10_noteTrap, .selects RX10 yX10_noteTrap yX10_noteTrap, .initialized RX10] := goodIn_r _ [9, 10, 11, 12] rfl (by decide +kernel)
set_option maxRecDepth 100000 in
theorem zg_zd_X10_beginRun_zd_X10_noteTrap_34_c : GoodIn zw_zd_X10_beginRun [.code yX10_noteTrap cX10_noteTrap 5 none] := goodIn_r _ [7] rfl (by decide +kernel)
set_option maxRecDepth 100000 in
theorem zg_zd_X10_beginRun_zd_X10_noteTrap_34_0 : GoodIn zw_zd_X10_beginRun zw_zd_X10_noteTrap_w0 := goodIn_r _ [8] rfl (by decide +kernel)
theorem zg_zd_X10_beginRun_zd_X10_noteTrap_34 : GoodIn zw_zd_X10_beginRun (wsV RX10 34 RX10 yX10_noteTrap zw_zd_X10_noteTrap) := goodIn_app zg_zd_X10_beginRun_zd_X10_noteTrap_34_a (goodIn_ca (a := (zw_zd_X10_noteTrap_w0)) (show GoodIn zw_zd_X10_beginRun (.code yX10_noteTrap cX10_noteTrap 5 none :: (zw_zd_X10_noteTrap_w0)) from goodIn_app zg_zd_X10_beginRun_zd_X10_noteTrap_34_c (zg_zd_X10_beginRun_zd_X10_noteTrap_34_0)) (fun w h => ⟨(fun _ h => List.mem_cons_of_mem _ (List.mem_append_right _ h)) w h, good_of_word (List.all_eq_true.mp zgw_X10 w h)⟩))
set_option maxHeartbeats 16000000 in
set_option maxRecDepth 100000 in
theorem zd_X10_beginRun (l : Launch) (D : va_G) (cI cZ cP cF : Nat) (q : Nat → Nat → Nat) (S : CST) (sz : Nat) (Post : CST → Prop) (h : wp_X10_beginRun S Post) : Met l yX10_beginRun zw_zd_X10_beginRun ({ frames := 1, cells := 0, slots := 0, locals := 24 }) (va_Pc [.ref (q 20 0)] (fun U => U.heap.size = sz ∧ va_P D vwCl (cW cI cZ cP cF q S) U.heap ∧ zF D cI cZ cP cF U ∧ va_D (fun _ => True) (cW cI cZ cP cF q S))) (va_Qv (fun S' => Post S') (fun (S' : CST) t => va_P D vwCl (cW cI cZ cP cF q S') t.heap ∧ va_D (va_A (cW cI cZ cP cF q S) sz) (cW cI cZ cP cF q S') ∧ S'.2 = S.2) (va_A (cW cI cZ cP cF q S) sz)) 0 0 (va_A (cW cI cZ cP cF q S) sz) := by
  unfold wp_X10_beginRun at h
  refine Met.ofW (cc := cX10_beginRun) (maxL := 1) (ret := none) (by decide) rfl ?_
  intro p e s m args below meth c s₁ B hml hv
  obtain ⟨rfl, hsz, hP, hE, hD0⟩ := hv
  have hx := B.exec
  have hb := B.bytes
  have hr := B.returns
  have hts := atoms_spec (ws := zw_zd_X10_beginRun) B.pre
  have hown : s.vm.findClass RX10 = some m.cls := findClass_of_methodNamed B.named
  have hlocks := B.notSynchronized
  have hK := hE.k
  subst hsz
  have hD := hD0.self (sz := s.heap.size)
  generalize hAe : va_A (cW cI cZ cP cF q S) s.heap.size = A at hD ⊢
  have hA : ∀ q : Nat, s.heap.size ≤ q → A q := fun q h => by rw [← hAe]; exact Or.inr h
  have hN : S.2 = S.2 := rfl
  have hl := lv_entry ([.ref (q 20 0)]) (n := 1) (Nat.le_of_ble_eq_true rfl)
  rw [lg_entry_eq]
  generalize (lg_sl ([.ref (q 20 0)]) ++ List.replicate (1 - (lg_sl ([.ref (q 20 0)])).length) Slot.unset).toArray = ls at hl ⊢
  have hl : lv_has ls 1 [(0, .ref (q 20 0))] := hl
  have key : ∀ (H : Heap) (locs : List Loc), va_P D vwCl (cW cI cZ cP cF q S) H → va_S A s.heap H locs → W p l e (headSpec zw_zd_X10_beginRun ({ frames := 1, cells := 0, slots := 0, locals := 24 })).room s m ([.ref (q 20 0)] : List Value).toArray below meth c H locs 0 0 (MQ below (va_Qv (fun S' => Post S') (fun (S' : CST) t => va_P D vwCl (cW cI cZ cP cF q S') t.heap ∧ va_D A (cW cI cZ cP cF q S') ∧ S'.2 = S.2) A) ([.ref (q 20 0)] : List Value).toArray s 0 0 A) (F0 m 0 ls []) := by
    intro H locs hP hS
    refine lv_aload_n hx hb dX10_beginRun_0 rfl (lv_at hl 0 rfl) ?_
    refine lv_dup hx hb dX10_beginRun_1 rfl ?_
    obtain ⟨p_1, hp_1⟩ := cget_20 cI cZ cP cF q S
    have hi_1 : cin S 20 0 := Or.inl ⟨by decide, rfl⟩
    refine va_get (D := D) (ci := 10) (v := .int (cv S 200 0 0)) (C := RX10) (T := TX10) (N := 7) hx hb hts (fun _ h => List.mem_cons_of_mem _ (List.mem_append_right _ h)) hown hK hP p_1 hp_1 rfl 0 (by decide) (hts (.fieldLink RX10 15 "TemplateForge$Tally" "runs" "I") (List.mem_of_getElem? (i := 1) rfl)) (fun _ h9 => h9) rfl dX10_beginRun_2 ?_
    refine lv_iconst (v := 1) hx hb dX10_beginRun_5 (by decide) ?_
    refine lv_iadd hx hb dX10_beginRun_6 ?_
    obtain ⟨p_2, hp_2⟩ := cget_20 cI cZ cP cF q S
    have hi_2 : cin S 20 0 := Or.inl ⟨by decide, rfl⟩
    have hD0_2 := hD
    refine va_put (D := D) (ci := 10) (v := .int ((cv S 200 0 0) + 1)) (ty := .int) (C := RX10) (T := TX10) (N := 7) hx hb hts (fun _ h => List.mem_cons_of_mem _ (List.mem_append_right _ h)) tyX10 tyX10_ok nmX10 hown hK hP hD hS p_2 hp_2 rfl 0 (by decide) (hts (.fieldLink RX10 15 "TemplateForge$Tally" "runs" "I") (List.mem_of_getElem? (i := 1) rfl)) (fun _ h9 => h9) rfl (by decide +kernel) rfl rfl (Nat.le_of_ble_eq_true rfl) dX10_beginRun_7 (fun H locs hP hD hS => ?_)
    obtain ⟨S3, eS3⟩ : ∃ z, z = cs S 200 0 (fun _ => (cv S 200 0 0) + 1) := ⟨_, rfl⟩
    have hP : va_P D vwCl (cW cI cZ cP cF q S3) H := by rw [eS3, ← cW_put (k := 200) (κ := 20) (i := 0) (g := (fun _ => (cv S 200 0 0) + 1)) rfl hD0_2 hp_2 hi_2, cput_200]; exact hP
    have hD : va_D A (cW cI cZ cP cF q S3) := by rw [eS3, ← cW_put (k := 200) (κ := 20) (i := 0) (g := (fun _ => (cv S 200 0 0) + 1)) rfl hD0_2 hp_2 hi_2, cput_200]; exact hD
    have hN : S3.2 = S.2 := by rw [eS3]; exact hN
    have h := h S3 eS3
    refine lv_aload_n hx hb dX10_beginRun_10 rfl (lv_at hl 0 rfl) ?_
    refine lv_iconst (v := 0) hx hb dX10_beginRun_11 (by decide) ?_
    obtain ⟨p_4, hp_4⟩ := cget_20 cI cZ cP cF q S3
    have hi_4 : cin S3 20 0 := Or.inl ⟨by decide, rfl⟩
    have hD0_4 := hD
    refine va_put (D := D) (ci := 10) (v := .int 0) (ty := .int) (C := RX10) (T := TX10) (N := 7) hx hb hts (fun _ h => List.mem_cons_of_mem _ (List.mem_append_right _ h)) tyX10 tyX10_ok nmX10 hown hK hP hD hS p_4 hp_4 rfl 1 (by decide) (hts (.fieldLink RX10 19 "TemplateForge$Tally" "steps" "I") (List.mem_of_getElem? (i := 2) rfl)) (fun _ h9 => h9) rfl (by decide +kernel) rfl rfl (Nat.le_of_ble_eq_true rfl) dX10_beginRun_12 (fun H locs hP hD hS => ?_)
    obtain ⟨S5, eS5⟩ : ∃ z, z = cs S3 201 0 (fun _ => 0) := ⟨_, rfl⟩
    have hP : va_P D vwCl (cW cI cZ cP cF q S5) H := by rw [eS5, ← cW_put (k := 201) (κ := 20) (i := 0) (g := (fun _ => 0)) rfl hD0_4 hp_4 hi_4, cput_201]; exact hP
    have hD : va_D A (cW cI cZ cP cF q S5) := by rw [eS5, ← cW_put (k := 201) (κ := 20) (i := 0) (g := (fun _ => 0)) rfl hD0_4 hp_4 hi_4, cput_201]; exact hD
    have hN : S5.2 = S.2 := by rw [eS5]; exact hN
    have h := h S5 eS5
    refine lv_aload_n hx hb dX10_beginRun_15 rfl (lv_at hl 0 rfl) ?_
    refine lv_iconst (v := 0) hx hb dX10_beginRun_16 (by decide) ?_
    obtain ⟨p_6, hp_6⟩ := cget_20 cI cZ cP cF q S5
    have hi_6 : cin S5 20 0 := Or.inl ⟨by decide, rfl⟩
    have hD0_6 := hD
    refine va_put (D := D) (ci := 10) (v := .int 0) (ty := .int) (C := RX10) (T := TX10) (N := 7) hx hb hts (fun _ h => List.mem_cons_of_mem _ (List.mem_append_right _ h)) tyX10 tyX10_ok nmX10 hown hK hP hD hS p_6 hp_6 rfl 2 (by decide) (hts (.fieldLink RX10 22 "TemplateForge$Tally" "calls" "I") (List.mem_of_getElem? (i := 3) rfl)) (fun _ h9 => h9) rfl (by decide +kernel) rfl rfl (Nat.le_of_ble_eq_true rfl) dX10_beginRun_17 (fun H locs hP hD hS => ?_)
    obtain ⟨S7, eS7⟩ : ∃ z, z = cs S5 202 0 (fun _ => 0) := ⟨_, rfl⟩
    have hP : va_P D vwCl (cW cI cZ cP cF q S7) H := by rw [eS7, ← cW_put (k := 202) (κ := 20) (i := 0) (g := (fun _ => 0)) rfl hD0_6 hp_6 hi_6, cput_202]; exact hP
    have hD : va_D A (cW cI cZ cP cF q S7) := by rw [eS7, ← cW_put (k := 202) (κ := 20) (i := 0) (g := (fun _ => 0)) rfl hD0_6 hp_6 hi_6, cput_202]; exact hD
    have hN : S7.2 = S.2 := by rw [eS7]; exact hN
    have h := h S7 eS7
    refine lv_aload_n hx hb dX10_beginRun_20 rfl (lv_at hl 0 rfl) ?_
    refine lv_iconst (v := 0) hx hb dX10_beginRun_21 (by decide) ?_
    obtain ⟨p_8, hp_8⟩ := cget_20 cI cZ cP cF q S7
    have hi_8 : cin S7 20 0 := Or.inl ⟨by decide, rfl⟩
    have hD0_8 := hD
    refine va_put (D := D) (ci := 10) (v := .int 0) (ty := .int) (C := RX10) (T := TX10) (N := 7) hx hb hts (fun _ h => List.mem_cons_of_mem _ (List.mem_append_right _ h)) tyX10 tyX10_ok nmX10 hown hK hP hD hS p_8 hp_8 rfl 3 (by decide) (hts (.fieldLink RX10 25 "TemplateForge$Tally" "coded" "I") (List.mem_of_getElem? (i := 4) rfl)) (fun _ h9 => h9) rfl (by decide +kernel) rfl rfl (Nat.le_of_ble_eq_true rfl) dX10_beginRun_22 (fun H locs hP hD hS => ?_)
    obtain ⟨S9, eS9⟩ : ∃ z, z = cs S7 203 0 (fun _ => 0) := ⟨_, rfl⟩
    have hP : va_P D vwCl (cW cI cZ cP cF q S9) H := by rw [eS9, ← cW_put (k := 203) (κ := 20) (i := 0) (g := (fun _ => 0)) rfl hD0_8 hp_8 hi_8, cput_203]; exact hP
    have hD : va_D A (cW cI cZ cP cF q S9) := by rw [eS9, ← cW_put (k := 203) (κ := 20) (i := 0) (g := (fun _ => 0)) rfl hD0_8 hp_8 hi_8, cput_203]; exact hD
    have hN : S9.2 = S.2 := by rw [eS9]; exact hN
    have h := h S9 eS9
    refine lv_aload_n hx hb dX10_beginRun_25 rfl (lv_at hl 0 rfl) ?_
    refine lv_iconst (v := 0) hx hb dX10_beginRun_26 (by decide) ?_
    obtain ⟨p_10, hp_10⟩ := cget_20 cI cZ cP cF q S9
    have hi_10 : cin S9 20 0 := Or.inl ⟨by decide, rfl⟩
    have hD0_10 := hD
    refine va_put (D := D) (ci := 10) (v := .int 0) (ty := .int) (C := RX10) (T := TX10) (N := 7) hx hb hts (fun _ h => List.mem_cons_of_mem _ (List.mem_append_right _ h)) tyX10 tyX10_ok nmX10 hown hK hP hD hS p_10 hp_10 rfl 4 (by decide) (hts (.fieldLink RX10 28 "TemplateForge$Tally" "failed" "I") (List.mem_of_getElem? (i := 5) rfl)) (fun _ h9 => h9) rfl (by decide +kernel) rfl rfl (Nat.le_of_ble_eq_true rfl) dX10_beginRun_27 (fun H locs hP hD hS => ?_)
    obtain ⟨S11, eS11⟩ : ∃ z, z = cs S9 204 0 (fun _ => 0) := ⟨_, rfl⟩
    have hP : va_P D vwCl (cW cI cZ cP cF q S11) H := by rw [eS11, ← cW_put (k := 204) (κ := 20) (i := 0) (g := (fun _ => 0)) rfl hD0_10 hp_10 hi_10, cput_204]; exact hP
    have hD : va_D A (cW cI cZ cP cF q S11) := by rw [eS11, ← cW_put (k := 204) (κ := 20) (i := 0) (g := (fun _ => 0)) rfl hD0_10 hp_10 hi_10, cput_204]; exact hD
    have hN : S11.2 = S.2 := by rw [eS11]; exact hN
    have h := h S11 eS11
    refine lv_aload_n hx hb dX10_beginRun_30 rfl (lv_at hl 0 rfl) ?_
    refine lv_iconst (v := 0) hx hb dX10_beginRun_31 (by decide) ?_
    obtain ⟨p_12, hp_12⟩ := cget_20 cI cZ cP cF q S11
    have hi_12 : cin S11 20 0 := Or.inl ⟨by decide, rfl⟩
    have hD0_12 := hD
    refine va_put (D := D) (ci := 10) (v := .int 0) (ty := .int) (C := RX10) (T := TX10) (N := 7) hx hb hts (fun _ h => List.mem_cons_of_mem _ (List.mem_append_right _ h)) tyX10 tyX10_ok nmX10 hown hK hP hD hS p_12 hp_12 rfl 5 (by decide) (hts (.fieldLink RX10 31 "TemplateForge$Tally" "returned" "I") (List.mem_of_getElem? (i := 6) rfl)) (fun _ h9 => h9) rfl (by decide +kernel) rfl rfl (Nat.le_of_ble_eq_true rfl) dX10_beginRun_32 (fun H locs hP hD hS => ?_)
    obtain ⟨S13, eS13⟩ : ∃ z, z = cs S11 205 0 (fun _ => 0) := ⟨_, rfl⟩
    have hP : va_P D vwCl (cW cI cZ cP cF q S13) H := by rw [eS13, ← cW_put (k := 205) (κ := 20) (i := 0) (g := (fun _ => 0)) rfl hD0_12 hp_12 hi_12, cput_205]; exact hP
    have hD : va_D A (cW cI cZ cP cF q S13) := by rw [eS13, ← cW_put (k := 205) (κ := 20) (i := 0) (g := (fun _ => 0)) rfl hD0_12 hp_12 hi_12, cput_205]; exact hD
    have hN : S13.2 = S.2 := by rw [eS13]; exact hN
    have h := h S13 eS13
    refine lv_aload_n hx hb dX10_beginRun_35 rfl (lv_at hl 0 rfl) ?_
    refine lv_iconst (v := 0) hx hb dX10_beginRun_36 (by decide) ?_
    refine lv_iconst (v := 0) hx hb dX10_beginRun_37 (by decide) ?_
    refine lv_iconst (v := 0) hx hb dX10_beginRun_38 (by decide) ?_
    refine lv_iconst (v := 0) hx hb dX10_beginRun_39 (by decide) ?_
    obtain ⟨p_14, hp_14⟩ := cget_20 cI cZ cP cF q S13
    have hi_14 : cin S13 20 0 := Or.inl ⟨by decide, rfl⟩
    have hFc := zm_free hD hS hA
    refine va_callv (va_runV (As := [.int 0, .int 0, .int 0, .int 0]) (rest := []) ⟨hx, hb, hml, hown, hts⟩ (zd_X10_noteTrap l D cI cZ cP cF q S13 0 0 0 0 H.size _ h) (cwV 4 hts zg_zd_X10_beginRun_zd_X10_noteTrap_34 rfl rfl rfl (by decide +kernel) ⟨Nat.le_of_ble_eq_true rfl, Nat.le_of_ble_eq_true rfl⟩) ⟨zCW, va_recv hK hP (ci := 10) (q0 := p_14) rfl hp_14, fun U hU hW => ⟨rfl, by rw [hU], by rw [hU]; exact hP, hE.warm hW, hD.weaken (fun _ _ _ _ => trivial)⟩⟩ rfl rfl hl.1 rfl (lv_room (Nat.le_of_ble_eq_true rfl)) dX10_beginRun_40 ⟨Nat.le_of_ble_eq_true rfl, Nat.le_of_ble_eq_true rfl⟩) hS (fun q _ h => hFc q h) hFc (fun S15 t H locs ht hvm h hB hz1 hk1 hS => ?_)
    obtain ⟨hP, hD1, hN1⟩ := hB
    rw [ht] at hP
    have hD := hD1.weaken (fun k q _ hq => hFc q.1 hq)
    have hN := hN1.trans hN
    exact W.vret hx hb hr (fun t ht hW => ⟨⟨S15, rfl, h, by rw [ht]; exact hP, hD, hN⟩, hS.F ht⟩) hS.2.2 dX10_beginRun_43
  exact key _ _ hP va_S.rf

def wp_X7_stepOn (S : CST) (Post : CST → Prop) : Prop :=
  ∀ S4 : CST, S4 = cs S 201 0 (fun _ => (cv S 201 0 0) + 1) → (((((cv S4 201 0 0) : Int32) ≤ 1500) → (Post S4)) ∧ ((¬ (((cv S4 201 0 0) : Int32) ≤ 1500)) → (∀ S9 : CST, S9 = cs S4 127 0 (fun _ => 3) → (Post S9))))
def zw_zd_X7_stepOn_w0 : List Cond := [.fieldLink RX7 12 "TemplateForge$Machine" "tally" "LTemplateForge$Tally;", .fieldLink RX7 150 "TemplateForge$Tally" "steps" "I", .fieldLink RX7 53 "TemplateForge$Machine" "ending" "I"]
def zw_zd_X7_stepOn : List Cond := .code yX7_stepOn cX7_stepOn 1 none :: ((zw_zd_X7_stepOn_w0) ++ wsX70 ++ wsX100)
set_option maxHeartbeats 16000000 in
set_option maxRecDepth 100000 in
theorem zd_X7_stepOn (l : Launch) (D : va_G) (cI cZ cP cF : Nat) (q : Nat → Nat → Nat) (S : CST) (sz : Nat) (Post : CST → Prop) (h : wp_X7_stepOn S Post) : Met l yX7_stepOn zw_zd_X7_stepOn ({ frames := 0, cells := 0, slots := 0, locals := 0 }) (va_Pc [.ref (q 12 0)] (fun U => U.heap.size = sz ∧ va_P D vwCl (cW cI cZ cP cF q S) U.heap ∧ zF D cI cZ cP cF U ∧ va_D (fun _ => True) (cW cI cZ cP cF q S))) (va_Qv (fun S' => Post S') (fun (S' : CST) t => va_P D vwCl (cW cI cZ cP cF q S') t.heap ∧ va_D (va_A (cW cI cZ cP cF q S) sz) (cW cI cZ cP cF q S') ∧ S'.2 = S.2) (va_A (cW cI cZ cP cF q S) sz)) 0 0 (va_A (cW cI cZ cP cF q S) sz) := by
  unfold wp_X7_stepOn at h
  refine Met.ofW (cc := cX7_stepOn) (maxL := 1) (ret := none) (by decide) rfl ?_
  intro p e s m args below meth c s₁ B hml hv
  obtain ⟨rfl, hsz, hP, hE, hD0⟩ := hv
  have hx := B.exec
  have hb := B.bytes
  have hr := B.returns
  have hts := atoms_spec (ws := zw_zd_X7_stepOn) B.pre
  have hown : s.vm.findClass RX7 = some m.cls := findClass_of_methodNamed B.named
  have hlocks := B.notSynchronized
  have hK := hE.k
  subst hsz
  have hD := hD0.self (sz := s.heap.size)
  generalize hAe : va_A (cW cI cZ cP cF q S) s.heap.size = A at hD ⊢
  have hA : ∀ q : Nat, s.heap.size ≤ q → A q := fun q h => by rw [← hAe]; exact Or.inr h
  have hN : S.2 = S.2 := rfl
  have hl := lv_entry ([.ref (q 12 0)]) (n := 1) (Nat.le_of_ble_eq_true rfl)
  rw [lg_entry_eq]
  generalize (lg_sl ([.ref (q 12 0)]) ++ List.replicate (1 - (lg_sl ([.ref (q 12 0)])).length) Slot.unset).toArray = ls at hl ⊢
  have hl : lv_has ls 1 [(0, .ref (q 12 0))] := hl
  have key : ∀ (H : Heap) (locs : List Loc), va_P D vwCl (cW cI cZ cP cF q S) H → va_S A s.heap H locs → W p l e (headSpec zw_zd_X7_stepOn ({ frames := 0, cells := 0, slots := 0, locals := 0 })).room s m ([.ref (q 12 0)] : List Value).toArray below meth c H locs 0 0 (MQ below (va_Qv (fun S' => Post S') (fun (S' : CST) t => va_P D vwCl (cW cI cZ cP cF q S') t.heap ∧ va_D A (cW cI cZ cP cF q S') ∧ S'.2 = S.2) A) ([.ref (q 12 0)] : List Value).toArray s 0 0 A) (F0 m 0 ls []) := by
    intro H locs hP hS
    refine lv_aload_n hx hb dX7_stepOn_0 rfl (lv_at hl 0 rfl) ?_
    obtain ⟨p_1, hp_1⟩ := cget_12 cI cZ cP cF q S
    have hi_1 : cin S 12 0 := Or.inl ⟨by decide, rfl⟩
    refine va_get (D := D) (ci := 7) (v := .ref (q 20 0)) (C := RX7) (T := TX7) (N := 10) hx hb hts (fun _ h => List.mem_cons_of_mem _ (List.mem_append_left _ (List.mem_append_right _ h))) hown hK hP p_1 hp_1 rfl 3 (by decide) (hts (.fieldLink RX7 12 "TemplateForge$Machine" "tally" "LTemplateForge$Tally;") (List.mem_of_getElem? (i := 1) rfl)) (fun _ h9 => h9) rfl dX7_stepOn_1 ?_
    refine lv_dup hx hb dX7_stepOn_4 rfl ?_
    obtain ⟨p_2, hp_2⟩ := cget_20 cI cZ cP cF q S
    have hi_2 : cin S 20 0 := Or.inl ⟨by decide, rfl⟩
    refine va_get (D := D) (ci := 10) (v := .int (cv S 201 0 0)) (C := RX10) (T := TX10) (N := 7) hx hb hts (fun _ h => List.mem_cons_of_mem _ (List.mem_append_right _ h)) hown hK hP p_2 hp_2 rfl 1 (by decide) (hts (.fieldLink RX7 150 "TemplateForge$Tally" "steps" "I") (List.mem_of_getElem? (i := 2) rfl)) (fun _ h9 => h9) rfl dX7_stepOn_5 ?_
    refine lv_iconst (v := 1) hx hb dX7_stepOn_8 (by decide) ?_
    refine lv_iadd hx hb dX7_stepOn_9 ?_
    obtain ⟨p_3, hp_3⟩ := cget_20 cI cZ cP cF q S
    have hi_3 : cin S 20 0 := Or.inl ⟨by decide, rfl⟩
    have hD0_3 := hD
    refine va_put (D := D) (ci := 10) (v := .int ((cv S 201 0 0) + 1)) (ty := .int) (C := RX10) (T := TX10) (N := 7) hx hb hts (fun _ h => List.mem_cons_of_mem _ (List.mem_append_right _ h)) tyX10 tyX10_ok nmX10 hown hK hP hD hS p_3 hp_3 rfl 1 (by decide) (hts (.fieldLink RX7 150 "TemplateForge$Tally" "steps" "I") (List.mem_of_getElem? (i := 2) rfl)) (fun _ h9 => h9) rfl (by decide +kernel) rfl rfl (Nat.le_of_ble_eq_true rfl) dX7_stepOn_10 (fun H locs hP hD hS => ?_)
    obtain ⟨S4, eS4⟩ : ∃ z, z = cs S 201 0 (fun _ => (cv S 201 0 0) + 1) := ⟨_, rfl⟩
    have hP : va_P D vwCl (cW cI cZ cP cF q S4) H := by rw [eS4, ← cW_put (k := 201) (κ := 20) (i := 0) (g := (fun _ => (cv S 201 0 0) + 1)) rfl hD0_3 hp_3 hi_3, cput_201]; exact hP
    have hD : va_D A (cW cI cZ cP cF q S4) := by rw [eS4, ← cW_put (k := 201) (κ := 20) (i := 0) (g := (fun _ => (cv S 201 0 0) + 1)) rfl hD0_3 hp_3 hi_3, cput_201]; exact hD
    have hN : S4.2 = S.2 := by rw [eS4]; exact hN
    have h := h S4 eS4
    refine lv_aload_n hx hb dX7_stepOn_13 rfl (lv_at hl 0 rfl) ?_
    obtain ⟨p_5, hp_5⟩ := cget_12 cI cZ cP cF q S4
    have hi_5 : cin S4 12 0 := Or.inl ⟨by decide, rfl⟩
    refine va_get (D := D) (ci := 7) (v := .ref (q 20 0)) (C := RX7) (T := TX7) (N := 10) hx hb hts (fun _ h => List.mem_cons_of_mem _ (List.mem_append_left _ (List.mem_append_right _ h))) hown hK hP p_5 hp_5 rfl 3 (by decide) (hts (.fieldLink RX7 12 "TemplateForge$Machine" "tally" "LTemplateForge$Tally;") (List.mem_of_getElem? (i := 1) rfl)) (fun _ h9 => h9) rfl dX7_stepOn_14 ?_
    obtain ⟨p_6, hp_6⟩ := cget_20 cI cZ cP cF q S4
    have hi_6 : cin S4 20 0 := Or.inl ⟨by decide, rfl⟩
    refine va_get (D := D) (ci := 10) (v := .int (cv S4 201 0 0)) (C := RX10) (T := TX10) (N := 7) hx hb hts (fun _ h => List.mem_cons_of_mem _ (List.mem_append_right _ h)) hown hK hP p_6 hp_6 rfl 1 (by decide) (hts (.fieldLink RX7 150 "TemplateForge$Tally" "steps" "I") (List.mem_of_getElem? (i := 2) rfl)) (fun _ h9 => h9) rfl dX7_stepOn_17 ?_
    refine lv_sipush (v := 1500) hx hb dX7_stepOn_20 (by decide) ?_
    refine lv_icmp_le (tgt := 31) hx hb dX7_stepOn_23 (by decide) (fun c_7 => ?_) (fun c_7 => ?_)
    · have h := h.1 c_7
      exact W.vret hx hb hr (fun t ht hW => ⟨⟨S4, rfl, h, by rw [ht]; exact hP, hD, hN⟩, hS.F ht⟩) hS.2.2 dX7_stepOn_31
    · have h := h.2 c_7
      refine lv_aload_n hx hb dX7_stepOn_26 rfl (lv_at hl 0 rfl) ?_
      refine lv_iconst (v := 3) hx hb dX7_stepOn_27 (by decide) ?_
      obtain ⟨p_8, hp_8⟩ := cget_12 cI cZ cP cF q S4
      have hi_8 : cin S4 12 0 := Or.inl ⟨by decide, rfl⟩
      have hD0_8 := hD
      refine va_put (D := D) (ci := 7) (v := .int 3) (ty := .int) (C := RX7) (T := TX7) (N := 10) hx hb hts (fun _ h => List.mem_cons_of_mem _ (List.mem_append_left _ (List.mem_append_right _ h))) tyX7 tyX7_ok nmX7 hown hK hP hD hS p_8 hp_8 rfl 7 (by decide) (hts (.fieldLink RX7 53 "TemplateForge$Machine" "ending" "I") (List.mem_of_getElem? (i := 3) rfl)) (fun _ h9 => h9) rfl (by decide +kernel) rfl rfl (Nat.le_of_ble_eq_true rfl) dX7_stepOn_28 (fun H locs hP hD hS => ?_)
      obtain ⟨S9, eS9⟩ : ∃ z, z = cs S4 127 0 (fun _ => 3) := ⟨_, rfl⟩
      have hP : va_P D vwCl (cW cI cZ cP cF q S9) H := by rw [eS9, ← cW_put (k := 127) (κ := 12) (i := 0) (g := (fun _ => 3)) rfl hD0_8 hp_8 hi_8, cput_127]; exact hP
      have hD : va_D A (cW cI cZ cP cF q S9) := by rw [eS9, ← cW_put (k := 127) (κ := 12) (i := 0) (g := (fun _ => 3)) rfl hD0_8 hp_8 hi_8, cput_127]; exact hD
      have hN : S9.2 = S.2 := by rw [eS9]; exact hN
      have h := h S9 eS9
      exact W.vret hx hb hr (fun t ht hW => ⟨⟨S9, rfl, h, by rw [ht]; exact hP, hD, hN⟩, hS.F ht⟩) hS.2.2 dX7_stepOn_31
  exact key _ _ hP va_S.rf

def wp_X6_comes (S : CST) (i1 : Nat) (a2 : Int32) (a3 : Int32) (Post : CST → Int32 → Prop) : Prop :=
  cin S 24 i1 ∧ (wp_X8_isDead S i1 a2 (fun r2 => (((r2 : Int32) = 0) → (cin S 24 i1 ∧ (wp_X8_depthAt S i1 a2 (fun r5 => ((¬ ((r5 : Int32) = a3)) → (Post S 0)) ∧ (((r5 : Int32) = a3) → (Post S 1)))))) ∧ ((¬ ((r2 : Int32) = 0)) → ((((a2 : Int32) < 0) → (cin S 24 i1 ∧ (wp_X8_depthAt S i1 a2 (fun r9 => ((¬ ((r9 : Int32) = a3)) → (Post S 0)) ∧ (((r9 : Int32) = a3) → (Post S 1)))))) ∧ ((¬ ((a2 : Int32) < 0)) → (((60 ≤ a2) → (cin S 24 i1 ∧ (wp_X8_depthAt S i1 a2 (fun r13 => ((¬ ((r13 : Int32) = a3)) → (Post S 0)) ∧ (((r13 : Int32) = a3) → (Post S 1)))))) ∧ ((¬ (60 ≤ a2)) → (cin S 24 i1 ∧ (wp_X8_comeTo S i1 a2 a3 (fun S16 => vp_in a2 60 ∧ (∀ S19 : CST, S19 = cs S16 110 0 (upd (cv S16 110 0) (a2 : Int32).toNatClampNeg (vp_nar .boolean 1)) → (cin S19 24 i1 ∧ (wp_X8_depthAt S19 i1 a2 (fun r21 => ((¬ ((r21 : Int32) = a3)) → (Post S19 0)) ∧ (((r21 : Int32) = a3) → (Post S19 1))))))))))))))))
def zw_zd_X6_comes_w0 : List Cond := [.code yX8_isDead cX8_isDead 2 (some .boolean), .code yX8_has cX8_has 2 (some .boolean), .fieldLink RX8 41 "TemplateForge$Program" "length" "I", .methodLink RX8 44 yX8_has, .instanceMethod yX8_has, .selects RX8 yX8_has yX8_has, .initialized RX8, .fieldLink RX8 25 "TemplateForge$Program" "depths" "[I", .methodLink RX6 96 yX8_isDead, .instanceMethod yX8_isDead, .selects RX8 yX8_isDead yX8_isDead, .code yX8_depthAt cX8_depthAt 2 (some .int), .methodLink RX6 78 yX8_depthAt, .instanceMethod yX8_depthAt, .selects RX8 yX8_depthAt yX8_depthAt, .code yX8_comeTo cX8_comeTo 3 none]
def zw_zd_X6_comes_w1 : List Cond := [.methodLink RX6 99 yX8_comeTo, .instanceMethod yX8_comeTo, .selects RX8 yX8_comeTo yX8_comeTo, .fieldLink RX6 9 "TemplateForge$Looker" "waiting" "[Z"]
def zw_zd_X6_comes : List Cond := .code yX6_comes cX6_comes 4 (some .boolean) :: ((zw_zd_X6_comes_w0 ++ (zw_zd_X6_comes_w1)) ++ wsX80 ++ wsX60)
set_option maxRecDepth 100000 in
theorem zg_zd_X6_comes_zd_X8_isDead_96_a : GoodIn zw_zd_X6_comes [.methodLink RX6 96 yX8_isDead, .instanceMethod yX8_isDead, .selects RX8 yX8_isDead yX8_isDead, .initialized RX8] := goodIn_r _ [9, 10, 11, 7] rfl (by decide +kernel)
set_option maxRecDepth 100000 in
theorem zg_zd_X6_comes_zd_X8_isDead_96_c : GoodIn zw_zd_X6_comes [.code yX8_isDead cX8_isDead 2 (some .boolean)] := goodIn_r _ [1] rfl (by decide +kernel)
set_option maxRecDepth 100000 in
theorem zg_zd_X6_comes_zd_X8_isDead_96_0 : GoodIn zw_zd_X6_comes zw_zd_X8_isDead_w0 := goodIn_r _ [2, 3, 4, 5, 6, 7, 8] rfl (by decide +kernel)
theorem zg_zd_X6_comes_zd_X8_isDead_96 : GoodIn zw_zd_X6_comes (wsV RX6 96 RX8 yX8_isDead zw_zd_X8_isDead) := goodIn_app zg_zd_X6_comes_zd_X8_isDead_96_a (goodIn_ca (a := (zw_zd_X8_isDead_w0)) (show GoodIn zw_zd_X6_comes (.code yX8_isDead cX8_isDead 2 (some .boolean) :: (zw_zd_X8_isDead_w0)) from goodIn_app zg_zd_X6_comes_zd_X8_isDead_96_c (zg_zd_X6_comes_zd_X8_isDead_96_0)) (fun w h => ⟨(fun _ h => List.mem_cons_of_mem _ (List.mem_append_left _ (List.mem_append_right _ h))) w h, good_of_word (List.all_eq_true.mp zgw_X8 w h)⟩))
set_option maxRecDepth 100000 in
theorem zg_zd_X6_comes_zd_X8_depthAt_78_a : GoodIn zw_zd_X6_comes [.methodLink RX6 78 yX8_depthAt, .instanceMethod yX8_depthAt, .selects RX8 yX8_depthAt yX8_depthAt, .initialized RX8] := goodIn_r _ [13, 14, 15, 7] rfl (by decide +kernel)
set_option maxRecDepth 100000 in
theorem zg_zd_X6_comes_zd_X8_depthAt_78_c : GoodIn zw_zd_X6_comes [.code yX8_depthAt cX8_depthAt 2 (some .int)] := goodIn_r _ [12] rfl (by decide +kernel)
set_option maxRecDepth 100000 in
theorem zg_zd_X6_comes_zd_X8_depthAt_78_0 : GoodIn zw_zd_X6_comes zw_zd_X8_depthAt_w0 := goodIn_r _ [2, 3, 4, 5, 6, 7, 8] rfl (by decide +kernel)
theorem zg_zd_X6_comes_zd_X8_depthAt_78 : GoodIn zw_zd_X6_comes (wsV RX6 78 RX8 yX8_depthAt zw_zd_X8_depthAt) := goodIn_app zg_zd_X6_comes_zd_X8_depthAt_78_a (goodIn_ca (a := (zw_zd_X8_depthAt_w0)) (show GoodIn zw_zd_X6_comes (.code yX8_depthAt cX8_depthAt 2 (some .int) :: (zw_zd_X8_depthAt_w0)) from goodIn_app zg_zd_X6_comes_zd_X8_depthAt_78_c (zg_zd_X6_comes_zd_X8_depthAt_78_0)) (fun w h => ⟨(fun _ h => List.mem_cons_of_mem _ (List.mem_append_left _ (List.mem_append_right _ h))) w h, good_of_word (List.all_eq_true.mp zgw_X8 w h)⟩))
set_option maxRecDepth 100000 in
theorem zg_zd_X6_comes_zd_X8_comeTo_99_a : GoodIn zw_zd_X6_comes [.methodLink RX6 99 yX8_comeTo, .instanceMethod yX8_comeTo, .selects RX8 yX8_comeTo yX8_comeTo, .initialized RX8] := goodIn_r _ [17, 18, 19, 7] rfl (by decide +kernel)
set_option maxRecDepth 100000 in
theorem zg_zd_X6_comes_zd_X8_comeTo_99_c : GoodIn zw_zd_X6_comes [.code yX8_comeTo cX8_comeTo 3 none] := goodIn_r _ [16] rfl (by decide +kernel)
set_option maxRecDepth 100000 in
theorem zg_zd_X6_comes_zd_X8_comeTo_99_0 : GoodIn zw_zd_X6_comes zw_zd_X8_comeTo_w0 := goodIn_r _ [2, 3, 4, 5, 6, 7, 8] rfl (by decide +kernel)
theorem zg_zd_X6_comes_zd_X8_comeTo_99 : GoodIn zw_zd_X6_comes (wsV RX6 99 RX8 yX8_comeTo zw_zd_X8_comeTo) := goodIn_app zg_zd_X6_comes_zd_X8_comeTo_99_a (goodIn_ca (a := (zw_zd_X8_comeTo_w0)) (show GoodIn zw_zd_X6_comes (.code yX8_comeTo cX8_comeTo 3 none :: (zw_zd_X8_comeTo_w0)) from goodIn_app zg_zd_X6_comes_zd_X8_comeTo_99_c (zg_zd_X6_comes_zd_X8_comeTo_99_0)) (fun w h => ⟨(fun _ h => List.mem_cons_of_mem _ (List.mem_append_left _ (List.mem_append_right _ h))) w h, good_of_word (List.all_eq_true.mp zgw_X8 w h)⟩))
set_option maxHeartbeats 16000000 in
set_option maxRecDepth 100000 in
theorem zd_X6_comes (l : Launch) (D : va_G) (cI cZ cP cF : Nat) (q : Nat → Nat → Nat) (S : CST) (i1 : Nat) (a2 : Int32) (a3 : Int32) (sz : Nat) (Post : CST → Int32 → Prop) (h : wp_X6_comes S i1 a2 a3 Post) : Met l yX6_comes zw_zd_X6_comes ({ frames := 2, cells := 0, slots := 0, locals := 43 }) (va_Pc [.ref (q 10 0), .ref (q 24 i1), .int a2, .int a3] (fun U => U.heap.size = sz ∧ va_P D vwCl (cW cI cZ cP cF q S) U.heap ∧ zF D cI cZ cP cF U ∧ va_D (fun _ => True) (cW cI cZ cP cF q S))) (va_Qi (fun r S' => Post S' r) (fun (S' : CST) t => va_P D vwCl (cW cI cZ cP cF q S') t.heap ∧ va_D (va_A (cW cI cZ cP cF q S) sz) (cW cI cZ cP cF q S') ∧ S'.2 = S.2) (va_A (cW cI cZ cP cF q S) sz)) 0 0 (va_A (cW cI cZ cP cF q S) sz) := by
  unfold wp_X6_comes at h
  refine Met.ofW (cc := cX6_comes) (maxL := 4) (ret := (some .boolean)) (by decide) rfl ?_
  intro p e s m args below meth c s₁ B hml hv
  obtain ⟨rfl, hsz, hP, hE, hD0⟩ := hv
  have hx := B.exec
  have hb := B.bytes
  have hr := B.returns
  have hts := atoms_spec (ws := zw_zd_X6_comes) B.pre
  have hown : s.vm.findClass RX6 = some m.cls := findClass_of_methodNamed B.named
  have hlocks := B.notSynchronized
  have hK := hE.k
  subst hsz
  have hD := hD0.self (sz := s.heap.size)
  generalize hAe : va_A (cW cI cZ cP cF q S) s.heap.size = A at hD ⊢
  have hA : ∀ q : Nat, s.heap.size ≤ q → A q := fun q h => by rw [← hAe]; exact Or.inr h
  have hN : S.2 = S.2 := rfl
  have hl := lv_entry ([.ref (q 10 0), .ref (q 24 i1), .int a2, .int a3]) (n := 4) (Nat.le_of_ble_eq_true rfl)
  rw [lg_entry_eq]
  generalize (lg_sl ([.ref (q 10 0), .ref (q 24 i1), .int a2, .int a3]) ++ List.replicate (4 - (lg_sl ([.ref (q 10 0), .ref (q 24 i1), .int a2, .int a3])).length) Slot.unset).toArray = ls at hl ⊢
  have hl : lv_has ls 4 [(0, .ref (q 10 0)), (1, .ref (q 24 i1)), (2, .int a2), (3, .int a3)] := hl
  have key : ∀ (H : Heap) (locs : List Loc), va_P D vwCl (cW cI cZ cP cF q S) H → va_S A s.heap H locs → W p l e (headSpec zw_zd_X6_comes ({ frames := 2, cells := 0, slots := 0, locals := 43 })).room s m ([.ref (q 10 0), .ref (q 24 i1), .int a2, .int a3] : List Value).toArray below meth c H locs 0 0 (MQ below (va_Qi (fun r S' => Post S' r) (fun (S' : CST) t => va_P D vwCl (cW cI cZ cP cF q S') t.heap ∧ va_D A (cW cI cZ cP cF q S') ∧ S'.2 = S.2) A) ([.ref (q 10 0), .ref (q 24 i1), .int a2, .int a3] : List Value).toArray s 0 0 A) (F0 m 0 ls []) := by
    intro H locs hP hS
    refine lv_aload_n hx hb dX6_comes_0 rfl (lv_at hl 1 rfl) ?_
    refine lv_iload_n hx hb dX6_comes_1 rfl (lv_at hl 2 rfl) ?_
    have hi_1 := h.1
    have h := h.2
    obtain ⟨p_1, hp_1⟩ := cget_24 cI cZ cP cF q S hi_1
    refine vp_callSi (va_Run.run (va_runV (As := [.int a2]) (rest := []) ⟨hx, hb, hml, hown, hts⟩ (zd_X8_isDead l D cI cZ cP cF q S i1 a2  _ h) (cwV 1 hts zg_zd_X6_comes_zd_X8_isDead_96 rfl rfl rfl (by decide +kernel) ⟨Nat.le_of_ble_eq_true rfl, Nat.le_of_ble_eq_true rfl⟩) ⟨zCR, va_recv hK hP (ci := 8) (q0 := p_1) rfl hp_1, fun U hU hW => ⟨rfl, by rw [hU]; exact hP, hE.warm hW⟩⟩ rfl rfl hl.1 rfl (lv_room (Nat.le_of_ble_eq_true rfl)) dX6_comes_2 ⟨Nat.le_of_ble_eq_true rfl, Nat.le_of_ble_eq_true rfl⟩)) (fun r2 h => ?_)
    refine lv_if_eq (tgt := 31) hx hb dX6_comes_5 (by decide) (fun c_3 => ?_) (fun c_3 => ?_)
    · have h := h.1 c_3
      refine lv_aload_n hx hb dX6_comes_31 rfl (lv_at hl 1 rfl) ?_
      refine lv_iload_n hx hb dX6_comes_32 rfl (lv_at hl 2 rfl) ?_
      have hi_4 := h.1
      have h := h.2
      obtain ⟨p_4, hp_4⟩ := cget_24 cI cZ cP cF q S hi_4
      refine vp_callSi (va_Run.run (va_runV (As := [.int a2]) (rest := []) ⟨hx, hb, hml, hown, hts⟩ (zd_X8_depthAt l D cI cZ cP cF q S i1 a2  _ h) (cwV 1 hts zg_zd_X6_comes_zd_X8_depthAt_78 rfl rfl rfl (by decide +kernel) ⟨Nat.le_of_ble_eq_true rfl, Nat.le_of_ble_eq_true rfl⟩) ⟨zCR, va_recv hK hP (ci := 8) (q0 := p_4) rfl hp_4, fun U hU hW => ⟨rfl, by rw [hU]; exact hP, hE.warm hW⟩⟩ rfl rfl hl.1 rfl (lv_room (Nat.le_of_ble_eq_true rfl)) dX6_comes_33 ⟨Nat.le_of_ble_eq_true rfl, Nat.le_of_ble_eq_true rfl⟩)) (fun r5 h => ?_)
      refine lv_iload_n hx hb dX6_comes_36 rfl (lv_at hl 3 rfl) ?_
      refine lv_icmp_ne (tgt := 44) hx hb dX6_comes_37 (by decide) (fun c_6 => ?_) (fun c_6 => ?_)
      · have h := h.1 c_6
        refine lv_iconst (v := 0) hx hb dX6_comes_44 (by decide) ?_
        exact W.zret (v := 0) (ty := .boolean) hx hb hr (by decide) (fun t ht hW => ⟨⟨_, S, rfl, h, by rw [ht]; exact hP, hD, hN⟩, hS.F ht⟩) hS.2.2 dX6_comes_45
      · have h := h.2 c_6
        refine lv_iconst (v := 1) hx hb dX6_comes_40 (by decide) ?_
        refine lv_goto (tgt := 45) hx hb dX6_comes_41 (by decide) ?_
        exact W.zret (v := 1) (ty := .boolean) hx hb hr (by decide) (fun t ht hW => ⟨⟨_, S, rfl, h, by rw [ht]; exact hP, hD, hN⟩, hS.F ht⟩) hS.2.2 dX6_comes_45
    · have h := h.2 c_3
      refine lv_iload_n hx hb dX6_comes_8 rfl (lv_at hl 2 rfl) ?_
      refine lv_if_lt (tgt := 31) hx hb dX6_comes_9 (by decide) (fun c_7 => ?_) (fun c_7 => ?_)
      · have h := h.1 c_7
        refine lv_aload_n hx hb dX6_comes_31 rfl (lv_at hl 1 rfl) ?_
        refine lv_iload_n hx hb dX6_comes_32 rfl (lv_at hl 2 rfl) ?_
        have hi_8 := h.1
        have h := h.2
        obtain ⟨p_8, hp_8⟩ := cget_24 cI cZ cP cF q S hi_8
        refine vp_callSi (va_Run.run (va_runV (As := [.int a2]) (rest := []) ⟨hx, hb, hml, hown, hts⟩ (zd_X8_depthAt l D cI cZ cP cF q S i1 a2  _ h) (cwV 1 hts zg_zd_X6_comes_zd_X8_depthAt_78 rfl rfl rfl (by decide +kernel) ⟨Nat.le_of_ble_eq_true rfl, Nat.le_of_ble_eq_true rfl⟩) ⟨zCR, va_recv hK hP (ci := 8) (q0 := p_8) rfl hp_8, fun U hU hW => ⟨rfl, by rw [hU]; exact hP, hE.warm hW⟩⟩ rfl rfl hl.1 rfl (lv_room (Nat.le_of_ble_eq_true rfl)) dX6_comes_33 ⟨Nat.le_of_ble_eq_true rfl, Nat.le_of_ble_eq_true rfl⟩)) (fun r9 h => ?_)
        refine lv_iload_n hx hb dX6_comes_36 rfl (lv_at hl 3 rfl) ?_
        refine lv_icmp_ne (tgt := 44) hx hb dX6_comes_37 (by decide) (fun c_10 => ?_) (fun c_10 => ?_)
        · have h := h.1 c_10
          refine lv_iconst (v := 0) hx hb dX6_comes_44 (by decide) ?_
          exact W.zret (v := 0) (ty := .boolean) hx hb hr (by decide) (fun t ht hW => ⟨⟨_, S, rfl, h, by rw [ht]; exact hP, hD, hN⟩, hS.F ht⟩) hS.2.2 dX6_comes_45
        · have h := h.2 c_10
          refine lv_iconst (v := 1) hx hb dX6_comes_40 (by decide) ?_
          refine lv_goto (tgt := 45) hx hb dX6_comes_41 (by decide) ?_
          exact W.zret (v := 1) (ty := .boolean) hx hb hr (by decide) (fun t ht hW => ⟨⟨_, S, rfl, h, by rw [ht]; exact hP, hD, hN⟩, hS.F ht⟩) hS.2.2 dX6_comes_45
      · have h := h.2 c_7
        refine lv_iload_n hx hb dX6_comes_12 rfl (lv_at hl 2 rfl) ?_
        refine lv_bipush (v := 60) hx hb dX6_comes_13 (by decide) ?_
        refine lv_icmp_ge (tgt := 31) hx hb dX6_comes_15 (by decide) (fun c_11 => ?_) (fun c_11 => ?_)
        · have h := h.1 c_11
          refine lv_aload_n hx hb dX6_comes_31 rfl (lv_at hl 1 rfl) ?_
          refine lv_iload_n hx hb dX6_comes_32 rfl (lv_at hl 2 rfl) ?_
          have hi_12 := h.1
          have h := h.2
          obtain ⟨p_12, hp_12⟩ := cget_24 cI cZ cP cF q S hi_12
          refine vp_callSi (va_Run.run (va_runV (As := [.int a2]) (rest := []) ⟨hx, hb, hml, hown, hts⟩ (zd_X8_depthAt l D cI cZ cP cF q S i1 a2  _ h) (cwV 1 hts zg_zd_X6_comes_zd_X8_depthAt_78 rfl rfl rfl (by decide +kernel) ⟨Nat.le_of_ble_eq_true rfl, Nat.le_of_ble_eq_true rfl⟩) ⟨zCR, va_recv hK hP (ci := 8) (q0 := p_12) rfl hp_12, fun U hU hW => ⟨rfl, by rw [hU]; exact hP, hE.warm hW⟩⟩ rfl rfl hl.1 rfl (lv_room (Nat.le_of_ble_eq_true rfl)) dX6_comes_33 ⟨Nat.le_of_ble_eq_true rfl, Nat.le_of_ble_eq_true rfl⟩)) (fun r13 h => ?_)
          refine lv_iload_n hx hb dX6_comes_36 rfl (lv_at hl 3 rfl) ?_
          refine lv_icmp_ne (tgt := 44) hx hb dX6_comes_37 (by decide) (fun c_14 => ?_) (fun c_14 => ?_)
          · have h := h.1 c_14
            refine lv_iconst (v := 0) hx hb dX6_comes_44 (by decide) ?_
            exact W.zret (v := 0) (ty := .boolean) hx hb hr (by decide) (fun t ht hW => ⟨⟨_, S, rfl, h, by rw [ht]; exact hP, hD, hN⟩, hS.F ht⟩) hS.2.2 dX6_comes_45
          · have h := h.2 c_14
            refine lv_iconst (v := 1) hx hb dX6_comes_40 (by decide) ?_
            refine lv_goto (tgt := 45) hx hb dX6_comes_41 (by decide) ?_
            exact W.zret (v := 1) (ty := .boolean) hx hb hr (by decide) (fun t ht hW => ⟨⟨_, S, rfl, h, by rw [ht]; exact hP, hD, hN⟩, hS.F ht⟩) hS.2.2 dX6_comes_45
        · have h := h.2 c_11
          refine lv_aload_n hx hb dX6_comes_18 rfl (lv_at hl 1 rfl) ?_
          refine lv_iload_n hx hb dX6_comes_19 rfl (lv_at hl 2 rfl) ?_
          refine lv_iload_n hx hb dX6_comes_20 rfl (lv_at hl 3 rfl) ?_
          have hi_15 := h.1
          have h := h.2
          obtain ⟨p_15, hp_15⟩ := cget_24 cI cZ cP cF q S hi_15
          have hFc := zm_free hD hS hA
          refine va_callv (va_runV (As := [.int a2, .int a3]) (rest := []) ⟨hx, hb, hml, hown, hts⟩ (zd_X8_comeTo l D cI cZ cP cF q S i1 a2 a3 H.size _ h) (cwV 2 hts zg_zd_X6_comes_zd_X8_comeTo_99 rfl rfl rfl (by decide +kernel) ⟨Nat.le_of_ble_eq_true rfl, Nat.le_of_ble_eq_true rfl⟩) ⟨zCW, va_recv hK hP (ci := 8) (q0 := p_15) rfl hp_15, fun U hU hW => ⟨rfl, by rw [hU], by rw [hU]; exact hP, hE.warm hW, hD.weaken (fun _ _ _ _ => trivial)⟩⟩ rfl rfl hl.1 rfl (lv_room (Nat.le_of_ble_eq_true rfl)) dX6_comes_21 ⟨Nat.le_of_ble_eq_true rfl, Nat.le_of_ble_eq_true rfl⟩) hS (fun q _ h => hFc q h) hFc (fun S16 t H locs ht hvm h hB hz1 hk1 hS => ?_)
          obtain ⟨hP, hD1, hN1⟩ := hB
          rw [ht] at hP
          have hD := hD1.weaken (fun k q _ hq => hFc q.1 hq)
          have hN := hN1.trans hN
          refine lv_aload_n hx hb dX6_comes_24 rfl (lv_at hl 0 rfl) ?_
          obtain ⟨p_17, hp_17⟩ := cget_10 cI cZ cP cF q S16
          have hi_17 : cin S16 10 0 := Or.inl ⟨by decide, rfl⟩
          refine va_get (D := D) (ci := 6) (v := .ref (q 11 0)) (C := RX6) (T := TX6) (N := 4) hx hb hts (fun _ h => List.mem_cons_of_mem _ (List.mem_append_right _ h)) hown hK hP p_17 hp_17 rfl 2 (by decide) (hts (.fieldLink RX6 9 "TemplateForge$Looker" "waiting" "[Z") (List.mem_of_getElem? (i := 20) rfl)) (fun _ h9 => h9) rfl dX6_comes_25 ?_
          refine lv_iload_n hx hb dX6_comes_28 rfl (lv_at hl 2 rfl) ?_
          refine lv_iconst (v := 1) hx hb dX6_comes_29 (by decide) ?_
          obtain ⟨p_18, hp_18⟩ := cget_11 cI cZ cP cF q S16
          have hi_18 : cin S16 11 0 := Or.inl ⟨by decide, rfl⟩
          have hin_18 := h.1
          have h := h.2
          have hD0_18 := hD
          refine va_zast hx hb hK hP hD hS p_18 1 hp_18 rfl hin_18 dX6_comes_30 (fun H locs hP hD hS => ?_)
          obtain ⟨S19, eS19⟩ : ∃ z, z = cs S16 110 0 (upd (cv S16 110 0) (a2 : Int32).toNatClampNeg (vp_nar .boolean 1)) := ⟨_, rfl⟩
          have hP : va_P D vwCl (cW cI cZ cP cF q S19) H := by rw [eS19, ← cW_put (k := 110) (κ := 11) (i := 0) (g := (upd (cv S16 110 0) (a2 : Int32).toNatClampNeg (vp_nar .boolean 1))) rfl hD0_18 hp_18 hi_18, cput_110]; exact hP
          have hD : va_D A (cW cI cZ cP cF q S19) := by rw [eS19, ← cW_put (k := 110) (κ := 11) (i := 0) (g := (upd (cv S16 110 0) (a2 : Int32).toNatClampNeg (vp_nar .boolean 1))) rfl hD0_18 hp_18 hi_18, cput_110]; exact hD
          have hN : S19.2 = S.2 := by rw [eS19]; exact hN
          have h := h S19 eS19
          refine lv_aload_n hx hb dX6_comes_31 rfl (lv_at hl 1 rfl) ?_
          refine lv_iload_n hx hb dX6_comes_32 rfl (lv_at hl 2 rfl) ?_
          have hi_20 := h.1
          have h := h.2
          obtain ⟨p_20, hp_20⟩ := cget_24 cI cZ cP cF q S19 hi_20
          refine vp_callSi (va_Run.run (va_runV (As := [.int a2]) (rest := []) ⟨hx, hb, hml, hown, hts⟩ (zd_X8_depthAt l D cI cZ cP cF q S19 i1 a2  _ h) (cwV 1 hts zg_zd_X6_comes_zd_X8_depthAt_78 rfl rfl rfl (by decide +kernel) ⟨Nat.le_of_ble_eq_true rfl, Nat.le_of_ble_eq_true rfl⟩) ⟨zCR, va_recv hK hP (ci := 8) (q0 := p_20) rfl hp_20, fun U hU hW => ⟨rfl, by rw [hU]; exact hP, hE.warm hW⟩⟩ rfl rfl hl.1 rfl (lv_room (Nat.le_of_ble_eq_true rfl)) dX6_comes_33 ⟨Nat.le_of_ble_eq_true rfl, Nat.le_of_ble_eq_true rfl⟩)) (fun r21 h => ?_)
          refine lv_iload_n hx hb dX6_comes_36 rfl (lv_at hl 3 rfl) ?_
          refine lv_icmp_ne (tgt := 44) hx hb dX6_comes_37 (by decide) (fun c_22 => ?_) (fun c_22 => ?_)
          · have h := h.1 c_22
            refine lv_iconst (v := 0) hx hb dX6_comes_44 (by decide) ?_
            exact W.zret (v := 0) (ty := .boolean) hx hb hr (by decide) (fun t ht hW => ⟨⟨_, S19, rfl, h, by rw [ht]; exact hP, hD, hN⟩, hS.F ht⟩) hS.2.2 dX6_comes_45
          · have h := h.2 c_22
            refine lv_iconst (v := 1) hx hb dX6_comes_40 (by decide) ?_
            refine lv_goto (tgt := 45) hx hb dX6_comes_41 (by decide) ?_
            exact W.zret (v := 1) (ty := .boolean) hx hb hr (by decide) (fun t ht hW => ⟨⟨_, S19, rfl, h, by rw [ht]; exact hP, hD, hN⟩, hS.F ht⟩) hS.2.2 dX6_comes_45
  exact key _ _ hP va_S.rf

def wp_X11_reckoned (a0 : Int32) (a1 : Int32) (a2 : Int32) (Post : Int32 → Prop) : Prop :=
  ((a0 : Int32).toInt < 2 ∨ 6 < (a0 : Int32).toInt → (((¬ ((a1 : Int32) = a2)) → (Post 0)) ∧ (((a1 : Int32) = a2) → (Post 1)))) ∧ (a0 = 2 → (Post (a1 + a2))) ∧ (a0 = 3 → (Post (a1 - a2))) ∧ (a0 = 4 → (Post (a1 * a2))) ∧ (a0 = 5 → (((¬ ((a2 : Int32) = 0)) → (¬ (a2 : Int32) = 0 ∧ (Post (a1 / a2)))) ∧ (((a2 : Int32) = 0) → (Post 0)))) ∧ (a0 = 6 → (((a2 ≤ a1) → (Post 0)) ∧ ((¬ (a2 ≤ a1)) → (Post 1))))
def zw_zd_X11_reckoned : List Cond := .code yX11_reckoned cX11_reckoned 3 (some .int) :: ((([] : List Cond)))
set_option maxHeartbeats 16000000 in
set_option maxRecDepth 100000 in
theorem zd_X11_reckoned (l : Launch) (D : va_G) (cI cZ cP cF : Nat) (a0 : Int32) (a1 : Int32) (a2 : Int32) (Post : Int32 → Prop) (h : wp_X11_reckoned a0 a1 a2 Post) : Met l yX11_reckoned zw_zd_X11_reckoned ({ frames := 0, cells := 0, slots := 0, locals := 0 }) (va_Pc [.int a0, .int a1, .int a2] (fun U => va_P D vwCl [] U.heap ∧ zF D cI cZ cP cF U)) (vp_Si Post) 0 0 (fun _ => False) := by
  unfold wp_X11_reckoned at h
  refine Met.ofW (cc := cX11_reckoned) (maxL := 3) (ret := (some .int)) (by decide) rfl ?_
  intro p e s m args below meth c s₁ B hml hv
  obtain ⟨rfl, hP, hE⟩ := hv
  have hx := B.exec
  have hb := B.bytes
  have hr := B.returns
  have hts := atoms_spec (ws := zw_zd_X11_reckoned) B.pre
  have hown : s.vm.findClass RX11 = some m.cls := findClass_of_methodNamed B.named
  have hlocks := B.notSynchronized
  have hK := hE.k
  have hl := lv_entry ([.int a0, .int a1, .int a2]) (n := 3) (Nat.le_of_ble_eq_true rfl)
  rw [lg_entry_eq]
  generalize (lg_sl ([.int a0, .int a1, .int a2]) ++ List.replicate (3 - (lg_sl ([.int a0, .int a1, .int a2])).length) Slot.unset).toArray = ls at hl ⊢
  have hl : lv_has ls 3 [(0, .int a0), (1, .int a1), (2, .int a2)] := hl
  refine lv_iload_n hx hb dX11_reckoned_0 rfl (lv_at hl 0 rfl) ?_
  rcases zt_2_6 a0 with h_out | h_in | h_in | h_in | h_in | h_in
  · have h := h.1 h_out
    refine lv_tableOut (tgt := 71) hx hb dX11_reckoned_1 h_out (by decide) ?_
    refine lv_iload_n hx hb dX11_reckoned_71 rfl (lv_at hl 1 rfl) ?_
    refine lv_iload_n hx hb dX11_reckoned_72 rfl (lv_at hl 2 rfl) ?_
    refine lv_icmp_ne (tgt := 80) hx hb dX11_reckoned_73 (by decide) (fun c_1 => ?_) (fun c_1 => ?_)
    · have h := h.1 c_1
      refine lv_iconst (v := 0) hx hb dX11_reckoned_80 (by decide) ?_
      exact W.iret (v := 0) hx hb hr (fun t ht hW => ⟨_, rfl, h, ht⟩) (fun q h => by cases h) dX11_reckoned_81
    · have h := h.2 c_1
      refine lv_iconst (v := 1) hx hb dX11_reckoned_76 (by decide) ?_
      refine lv_goto (tgt := 81) hx hb dX11_reckoned_77 (by decide) ?_
      exact W.iret (v := 1) hx hb hr (fun t ht hW => ⟨_, rfl, h, ht⟩) (fun q h => by cases h) dX11_reckoned_81
  · have h := h.2.1 h_in
    refine lv_tableIn (off := 35) (tgt := 36) hx hb dX11_reckoned_1 (by rw [h_in]; decide) (by rw [h_in]; decide) (by rw [h_in]; decide) (by decide) ?_
    refine lv_iload_n hx hb dX11_reckoned_36 rfl (lv_at hl 1 rfl) ?_
    refine lv_iload_n hx hb dX11_reckoned_37 rfl (lv_at hl 2 rfl) ?_
    refine lv_iadd hx hb dX11_reckoned_38 ?_
    exact W.iret (v := a1 + a2) hx hb hr (fun t ht hW => ⟨_, rfl, h, ht⟩) (fun q h => by cases h) dX11_reckoned_39
  · have h := h.2.2.1 h_in
    refine lv_tableIn (off := 39) (tgt := 40) hx hb dX11_reckoned_1 (by rw [h_in]; decide) (by rw [h_in]; decide) (by rw [h_in]; decide) (by decide) ?_
    refine lv_iload_n hx hb dX11_reckoned_40 rfl (lv_at hl 1 rfl) ?_
    refine lv_iload_n hx hb dX11_reckoned_41 rfl (lv_at hl 2 rfl) ?_
    refine lv_isub hx hb dX11_reckoned_42 ?_
    exact W.iret (v := a1 - a2) hx hb hr (fun t ht hW => ⟨_, rfl, h, ht⟩) (fun q h => by cases h) dX11_reckoned_43
  · have h := h.2.2.2.1 h_in
    refine lv_tableIn (off := 43) (tgt := 44) hx hb dX11_reckoned_1 (by rw [h_in]; decide) (by rw [h_in]; decide) (by rw [h_in]; decide) (by decide) ?_
    refine lv_iload_n hx hb dX11_reckoned_44 rfl (lv_at hl 1 rfl) ?_
    refine lv_iload_n hx hb dX11_reckoned_45 rfl (lv_at hl 2 rfl) ?_
    refine lv_imul hx hb dX11_reckoned_46 ?_
    exact W.iret (v := a1 * a2) hx hb hr (fun t ht hW => ⟨_, rfl, h, ht⟩) (fun q h => by cases h) dX11_reckoned_47
  · have h := h.2.2.2.2.1 h_in
    refine lv_tableIn (off := 47) (tgt := 48) hx hb dX11_reckoned_1 (by rw [h_in]; decide) (by rw [h_in]; decide) (by rw [h_in]; decide) (by decide) ?_
    refine lv_iload_n hx hb dX11_reckoned_48 rfl (lv_at hl 2 rfl) ?_
    refine lv_if_ne (tgt := 56) hx hb dX11_reckoned_49 (by decide) (fun c_2 => ?_) (fun c_2 => ?_)
    · have h := h.1 c_2
      refine lv_iload_n hx hb dX11_reckoned_56 rfl (lv_at hl 1 rfl) ?_
      refine lv_iload_n hx hb dX11_reckoned_57 rfl (lv_at hl 2 rfl) ?_
      refine lv_idiv hx hb dX11_reckoned_58 h.1 ?_
      have h := h.2
      exact W.iret (v := a1 / a2) hx hb hr (fun t ht hW => ⟨_, rfl, h, ht⟩) (fun q h => by cases h) dX11_reckoned_59
    · have h := h.2 c_2
      refine lv_iconst (v := 0) hx hb dX11_reckoned_52 (by decide) ?_
      refine lv_goto (tgt := 59) hx hb dX11_reckoned_53 (by decide) ?_
      exact W.iret (v := 0) hx hb hr (fun t ht hW => ⟨_, rfl, h, ht⟩) (fun q h => by cases h) dX11_reckoned_59
  · have h := h.2.2.2.2.2 h_in
    refine lv_tableIn (off := 59) (tgt := 60) hx hb dX11_reckoned_1 (by rw [h_in]; decide) (by rw [h_in]; decide) (by rw [h_in]; decide) (by decide) ?_
    refine lv_iload_n hx hb dX11_reckoned_60 rfl (lv_at hl 1 rfl) ?_
    refine lv_iload_n hx hb dX11_reckoned_61 rfl (lv_at hl 2 rfl) ?_
    refine lv_icmp_ge (tgt := 69) hx hb dX11_reckoned_62 (by decide) (fun c_3 => ?_) (fun c_3 => ?_)
    · have h := h.1 c_3
      refine lv_iconst (v := 0) hx hb dX11_reckoned_69 (by decide) ?_
      exact W.iret (v := 0) hx hb hr (fun t ht hW => ⟨_, rfl, h, ht⟩) (fun q h => by cases h) dX11_reckoned_70
    · have h := h.2 c_3
      refine lv_iconst (v := 1) hx hb dX11_reckoned_65 (by decide) ?_
      refine lv_goto (tgt := 70) hx hb dX11_reckoned_66 (by decide) ?_
      exact W.iret (v := 1) hx hb hr (fun t ht hW => ⟨_, rfl, h, ht⟩) (fun q h => by cases h) dX11_reckoned_70
