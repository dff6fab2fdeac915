def wp_X4_valueOf (S : CST) (i : Nat) (a1 : Int32) (Post : Int32 → Prop) : Prop :=
  (((a1 : Int32) < 0) → (Post 0)) ∧ ((¬ ((a1 : Int32) < 0)) → (((15 ≤ a1) → (Post 0)) ∧ ((¬ (15 ≤ a1)) → (cin S 22 i ∧ (cin S 23 i ∧ vp_in a1 15 ∧ (Post (cv S 230 i (a1 : Int32).toNatClampNeg)))))))
def zw_zd_X4_valueOf_w0 : List Cond := [.fieldLink RX4 9 "TemplateForge$Frame" "registers" "[I"]
def zw_zd_X4_valueOf : List Cond := .code yX4_valueOf cX4_valueOf 2 (some .int) :: ((zw_zd_X4_valueOf_w0) ++ wsX40)
set_option maxHeartbeats 16000000 in
set_option maxRecDepth 100000 in
theorem zd_X4_valueOf (l : Launch) (D : va_G) (cI cZ cP cF : Nat) (q : Nat → Nat → Nat) (S : CST) (i : Nat) (a1 : Int32) (Post : Int32 → Prop) (h : wp_X4_valueOf S i a1 Post) : Met l yX4_valueOf zw_zd_X4_valueOf ({ frames := 0, cells := 0, slots := 0, locals := 0 }) (va_Pc [.ref (q 22 i), .int a1] (fun U => va_P D vwCl (cW cI cZ cP cF q S) U.heap ∧ zE D cI cZ cP cF U)) (vp_Si Post) 0 0 (fun _ => False) := by
  unfold wp_X4_valueOf at h
  refine Met.ofW (cc := cX4_valueOf) (maxL := 2) (ret := (some .int)) (by decide) rfl ?_
  intro p e s m args below meth c s₁ B hml hv
  obtain ⟨rfl, hP, hE⟩ := hv
  have hx := B.exec
  have hb := B.bytes
  have hr := B.returns
  have hts := atoms_spec (ws := zw_zd_X4_valueOf) B.pre
  have hown : s.vm.findClass RX4 = some m.cls := findClass_of_methodNamed B.named
  have hlocks := B.notSynchronized
  have hK := hE.k
  have hl := lv_entry ([.ref (q 22 i), .int a1]) (n := 2) (Nat.le_of_ble_eq_true rfl)
  rw [lg_entry_eq]
  generalize (lg_sl ([.ref (q 22 i), .int a1]) ++ List.replicate (2 - (lg_sl ([.ref (q 22 i), .int a1])).length) Slot.unset).toArray = ls at hl ⊢
  have hl : lv_has ls 2 [(0, .ref (q 22 i)), (1, .int a1)] := hl
  refine lv_iload_n hx hb dX4_valueOf_0 rfl (lv_at hl 1 rfl) ?_
  refine lv_if_lt (tgt := 19) hx hb dX4_valueOf_1 (by decide) (fun c_1 => ?_) (fun c_1 => ?_)
  · have h := h.1 c_1
    refine lv_iconst (v := 0) hx hb dX4_valueOf_19 (by decide) ?_
    exact W.iret (v := 0) hx hb hr (fun t ht hW => ⟨_, rfl, h, ht⟩) (fun q h => by cases h) dX4_valueOf_20
  · have h := h.2 c_1
    refine lv_iload_n hx hb dX4_valueOf_4 rfl (lv_at hl 1 rfl) ?_
    refine lv_bipush (v := 15) hx hb dX4_valueOf_5 (by decide) ?_
    refine lv_icmp_ge (tgt := 19) hx hb dX4_valueOf_7 (by decide) (fun c_2 => ?_) (fun c_2 => ?_)
    · have h := h.1 c_2
      refine lv_iconst (v := 0) hx hb dX4_valueOf_19 (by decide) ?_
      exact W.iret (v := 0) hx hb hr (fun t ht hW => ⟨_, rfl, h, ht⟩) (fun q h => by cases h) dX4_valueOf_20
    · have h := h.2 c_2
      refine lv_aload_n hx hb dX4_valueOf_10 rfl (lv_at hl 0 rfl) ?_
      have hi_3 := h.1
      have h := h.2
      obtain ⟨p_3, hp_3⟩ := cget_22 cI cZ cP cF q S hi_3
      refine va_get (D := D) (ci := 4) (v := .ref (q 23 i)) (C := RX4) (T := TX4) (N := 5) hx hb hts (fun _ h => List.mem_cons_of_mem _ (List.mem_append_right _ h)) hown hK hP p_3 hp_3 rfl 4 (by decide) (hts (.fieldLink RX4 9 "TemplateForge$Frame" "registers" "[I") (List.mem_of_getElem? (i := 1) rfl)) (fun _ h9 => h9) rfl dX4_valueOf_11 ?_
      refine lv_iload_n hx hb dX4_valueOf_14 rfl (lv_at hl 1 rfl) ?_
      have hi_4 := h.1
      have h := h.2
      obtain ⟨p_4, hp_4⟩ := cget_23 cI cZ cP cF q S hi_4
      have hin_4 := h.1
      have h := h.2
      refine va_iald hx hb hK hP p_4 0 hp_4 rfl hin_4 dX4_valueOf_15 ?_
      refine lv_goto (tgt := 20) hx hb dX4_valueOf_16 (by decide) ?_
      exact W.iret (v := cv S 230 i (a1 : Int32).toNatClampNeg) hx hb hr (fun t ht hW => ⟨_, rfl, h, ht⟩) (fun q h => by cases h) dX4_valueOf_20

def wp_X4_put (S : CST) (i : Nat) (a1 : Int32) (a2 : Int32) (Post : CST → Prop) : Prop :=
  (((a1 : Int32) < 0) → (Post S)) ∧ ((¬ ((a1 : Int32) < 0)) → (((15 ≤ a1) → (Post S)) ∧ ((¬ (15 ≤ a1)) → (cin S 22 i ∧ (cin S 23 i ∧ vp_in a1 15 ∧ (∀ S5 : CST, S5 = cs S 230 i (upd (cv S 230 i) (a1 : Int32).toNatClampNeg a2) → (Post S5)))))))
def zw_zd_X4_put_w0 : List Cond := [.fieldLink RX4 9 "TemplateForge$Frame" "registers" "[I"]
def zw_zd_X4_put : List Cond := .code yX4_put cX4_put 3 none :: ((zw_zd_X4_put_w0) ++ wsX40)
set_option maxHeartbeats 16000000 in
set_option maxRecDepth 100000 in
theorem zd_X4_put (l : Launch) (D : va_G) (cI cZ cP cF : Nat) (q : Nat → Nat → Nat) (S : CST) (i : Nat) (a1 : Int32) (a2 : Int32) (sz : Nat) (Post : CST → Prop) (h : wp_X4_put S i a1 a2 Post) : Met l yX4_put zw_zd_X4_put ({ frames := 0, cells := 0, slots := 0, locals := 0 }) (va_Pc [.ref (q 22 i), .int a1, .int a2] (fun U => U.heap.size = sz ∧ va_P D vwCl (cW cI cZ cP cF q S) U.heap ∧ zE D cI cZ cP cF U ∧ va_D (fun _ => True) (cW cI cZ cP cF q S))) (va_Qv (fun S' => Post S') (fun (S' : CST) t => va_P D vwCl (cW cI cZ cP cF q S') t.heap ∧ va_D (va_A (cW cI cZ cP cF q S) sz) (cW cI cZ cP cF q S')) (va_A (cW cI cZ cP cF q S) sz)) 0 0 (va_A (cW cI cZ cP cF q S) sz) := by
  unfold wp_X4_put at h
  refine Met.ofW (cc := cX4_put) (maxL := 3) (ret := none) (by decide) rfl ?_
  intro p e s m args below meth c s₁ B hml hv
  obtain ⟨rfl, hsz, hP, hE, hD0⟩ := hv
  have hx := B.exec
  have hb := B.bytes
  have hr := B.returns
  have hts := atoms_spec (ws := zw_zd_X4_put) B.pre
  have hown : s.vm.findClass RX4 = some m.cls := findClass_of_methodNamed B.named
  have hlocks := B.notSynchronized
  have hK := hE.k
  subst hsz
  have hD := hD0.self (sz := s.heap.size)
  generalize hAe : va_A (cW cI cZ cP cF q S) s.heap.size = A at hD ⊢
  have hA : ∀ q : Nat, s.heap.size ≤ q → A q := fun q h => by rw [← hAe]; exact Or.inr h
  have hl := lv_entry ([.ref (q 22 i), .int a1, .int a2]) (n := 3) (Nat.le_of_ble_eq_true rfl)
  rw [lg_entry_eq]
  generalize (lg_sl ([.ref (q 22 i), .int a1, .int a2]) ++ List.replicate (3 - (lg_sl ([.ref (q 22 i), .int a1, .int a2])).length) Slot.unset).toArray = ls at hl ⊢
  have hl : lv_has ls 3 [(0, .ref (q 22 i)), (1, .int a1), (2, .int a2)] := hl
  have key : ∀ (H : Heap) (locs : List Loc), va_P D vwCl (cW cI cZ cP cF q S) H → va_S A s.heap H locs → W p l e (headSpec zw_zd_X4_put ({ frames := 0, cells := 0, slots := 0, locals := 0 })).room s m ([.ref (q 22 i), .int a1, .int a2] : List Value).toArray below meth c H locs 0 0 (MQ below (va_Qv (fun S' => Post S') (fun (S' : CST) t => va_P D vwCl (cW cI cZ cP cF q S') t.heap ∧ va_D A (cW cI cZ cP cF q S')) A) ([.ref (q 22 i), .int a1, .int a2] : List Value).toArray s 0 0 A) (F0 m 0 ls []) := by
    intro H locs hP hS
    refine lv_iload_n hx hb dX4_put_0 rfl (lv_at hl 1 rfl) ?_
    refine lv_if_lt (tgt := 17) hx hb dX4_put_1 (by decide) (fun c_1 => ?_) (fun c_1 => ?_)
    · have h := h.1 c_1
      exact W.vret hx hb hr (fun t ht hW => ⟨⟨S, rfl, h, by rw [ht]; exact hP, hD⟩, hS.F ht⟩) hS.2.2 dX4_put_17
    · have h := h.2 c_1
      refine lv_iload_n hx hb dX4_put_4 rfl (lv_at hl 1 rfl) ?_
      refine lv_bipush (v := 15) hx hb dX4_put_5 (by decide) ?_
      refine lv_icmp_ge (tgt := 17) hx hb dX4_put_7 (by decide) (fun c_2 => ?_) (fun c_2 => ?_)
      · have h := h.1 c_2
        exact W.vret hx hb hr (fun t ht hW => ⟨⟨S, rfl, h, by rw [ht]; exact hP, hD⟩, hS.F ht⟩) hS.2.2 dX4_put_17
      · have h := h.2 c_2
        refine lv_aload_n hx hb dX4_put_10 rfl (lv_at hl 0 rfl) ?_
        have hi_3 := h.1
        have h := h.2
        obtain ⟨p_3, hp_3⟩ := cget_22 cI cZ cP cF q S hi_3
        refine va_get (D := D) (ci := 4) (v := .ref (q 23 i)) (C := RX4) (T := TX4) (N := 5) hx hb hts (fun _ h => List.mem_cons_of_mem _ (List.mem_append_right _ h)) hown hK hP p_3 hp_3 rfl 4 (by decide) (hts (.fieldLink RX4 9 "TemplateForge$Frame" "registers" "[I") (List.mem_of_getElem? (i := 1) rfl)) (fun _ h9 => h9) rfl dX4_put_11 ?_
        refine lv_iload_n hx hb dX4_put_14 rfl (lv_at hl 1 rfl) ?_
        refine lv_iload_n hx hb dX4_put_15 rfl (lv_at hl 2 rfl) ?_
        have hi_4 := h.1
        have h := h.2
        obtain ⟨p_4, hp_4⟩ := cget_23 cI cZ cP cF q S hi_4
        have hin_4 := h.1
        have h := h.2
        have hD0_4 := hD
        refine va_iast hx hb hK hP hD hS p_4 0 hp_4 rfl hin_4 dX4_put_16 (fun H locs hP hD hS => ?_)
        obtain ⟨S5, eS5⟩ : ∃ z, z = cs S 230 i (upd (cv S 230 i) (a1 : Int32).toNatClampNeg a2) := ⟨_, rfl⟩
        have hP : va_P D vwCl (cW cI cZ cP cF q S5) H := by rw [eS5, ← cW_put (k := 230) (κ := 23) (i := i) (g := (upd (cv S 230 i) (a1 : Int32).toNatClampNeg a2)) rfl hD0_4 hp_4 hi_4, cput_230]; exact hP
        have hD : va_D A (cW cI cZ cP cF q S5) := by rw [eS5, ← cW_put (k := 230) (κ := 23) (i := i) (g := (upd (cv S 230 i) (a1 : Int32).toNatClampNeg a2)) rfl hD0_4 hp_4 hi_4, cput_230]; exact hD
        have h := h S5 eS5
        exact W.vret hx hb hr (fun t ht hW => ⟨⟨S5, rfl, h, by rw [ht]; exact hP, hD⟩, hS.F ht⟩) hS.2.2 dX4_put_17
  exact key _ _ hP va_S.rf

def wp_X2_valueOf (S : CST) (a1 : Int32) (Post : Int32 → Prop) : Prop :=
  (((a1 : Int32) < 0) → (Post 0)) ∧ ((¬ ((a1 : Int32) < 0)) → (((8 ≤ a1) → (Post 0)) ∧ ((¬ (8 ≤ a1)) → (vp_in a1 8 ∧ (Post (cv S 40 0 (a1 : Int32).toNatClampNeg))))))
def zw_zd_X2_valueOf_w0 : List Cond := [.fieldLink RX2 9 "TemplateForge$Data" "fields" "[I"]
def zw_zd_X2_valueOf : List Cond := .code yX2_valueOf cX2_valueOf 2 (some .int) :: ((zw_zd_X2_valueOf_w0) ++ wsX20)
set_option maxHeartbeats 16000000 in
set_option maxRecDepth 100000 in
theorem zd_X2_valueOf (l : Launch) (D : va_G) (cI cZ cP cF : Nat) (q : Nat → Nat → Nat) (S : CST) (a1 : Int32) (Post : Int32 → Prop) (h : wp_X2_valueOf S a1 Post) : Met l yX2_valueOf zw_zd_X2_valueOf ({ frames := 0, cells := 0, slots := 0, locals := 0 }) (va_Pc [.ref (q 3 0), .int a1] (fun U => va_P D vwCl (cW cI cZ cP cF q S) U.heap ∧ zE D cI cZ cP cF U)) (vp_Si Post) 0 0 (fun _ => False) := by
  unfold wp_X2_valueOf at h
  refine Met.ofW (cc := cX2_valueOf) (maxL := 2) (ret := (some .int)) (by decide) rfl ?_
  intro p e s m args below meth c s₁ B hml hv
  obtain ⟨rfl, hP, hE⟩ := hv
  have hx := B.exec
  have hb := B.bytes
  have hr := B.returns
  have hts := atoms_spec (ws := zw_zd_X2_valueOf) B.pre
  have hown : s.vm.findClass RX2 = some m.cls := findClass_of_methodNamed B.named
  have hlocks := B.notSynchronized
  have hK := hE.k
  have hl := lv_entry ([.ref (q 3 0), .int a1]) (n := 2) (Nat.le_of_ble_eq_true rfl)
  rw [lg_entry_eq]
  generalize (lg_sl ([.ref (q 3 0), .int a1]) ++ List.replicate (2 - (lg_sl ([.ref (q 3 0), .int a1])).length) Slot.unset).toArray = ls at hl ⊢
  have hl : lv_has ls 2 [(0, .ref (q 3 0)), (1, .int a1)] := hl
  refine lv_iload_n hx hb dX2_valueOf_0 rfl (lv_at hl 1 rfl) ?_
  refine lv_if_lt (tgt := 19) hx hb dX2_valueOf_1 (by decide) (fun c_1 => ?_) (fun c_1 => ?_)
  · have h := h.1 c_1
    refine lv_iconst (v := 0) hx hb dX2_valueOf_19 (by decide) ?_
    exact W.iret (v := 0) hx hb hr (fun t ht hW => ⟨_, rfl, h, ht⟩) (fun q h => by cases h) dX2_valueOf_20
  · have h := h.2 c_1
    refine lv_iload_n hx hb dX2_valueOf_4 rfl (lv_at hl 1 rfl) ?_
    refine lv_bipush (v := 8) hx hb dX2_valueOf_5 (by decide) ?_
    refine lv_icmp_ge (tgt := 19) hx hb dX2_valueOf_7 (by decide) (fun c_2 => ?_) (fun c_2 => ?_)
    · have h := h.1 c_2
      refine lv_iconst (v := 0) hx hb dX2_valueOf_19 (by decide) ?_
      exact W.iret (v := 0) hx hb hr (fun t ht hW => ⟨_, rfl, h, ht⟩) (fun q h => by cases h) dX2_valueOf_20
    · have h := h.2 c_2
      refine lv_aload_n hx hb dX2_valueOf_10 rfl (lv_at hl 0 rfl) ?_
      obtain ⟨p_3, hp_3⟩ := cget_3 cI cZ cP cF q S
      have hi_3 : cin S 3 0 := Or.inl ⟨by decide, rfl⟩
      refine va_get (D := D) (ci := 2) (v := .ref (q 4 0)) (C := RX2) (T := TX2) (N := 3) hx hb hts (fun _ h => List.mem_cons_of_mem _ (List.mem_append_right _ h)) hown hK hP p_3 hp_3 rfl 0 (by decide) (hts (.fieldLink RX2 9 "TemplateForge$Data" "fields" "[I") (List.mem_of_getElem? (i := 1) rfl)) (fun _ h9 => h9) rfl dX2_valueOf_11 ?_
      refine lv_iload_n hx hb dX2_valueOf_14 rfl (lv_at hl 1 rfl) ?_
      obtain ⟨p_4, hp_4⟩ := cget_4 cI cZ cP cF q S
      have hi_4 : cin S 4 0 := Or.inl ⟨by decide, rfl⟩
      have hin_4 := h.1
      have h := h.2
      refine va_iald hx hb hK hP p_4 0 hp_4 rfl hin_4 dX2_valueOf_15 ?_
      refine lv_goto (tgt := 20) hx hb dX2_valueOf_16 (by decide) ?_
      exact W.iret (v := cv S 40 0 (a1 : Int32).toNatClampNeg) hx hb hr (fun t ht hW => ⟨_, rfl, h, ht⟩) (fun q h => by cases h) dX2_valueOf_20

def wp_X2_lengthOf (S : CST) (a1 : Int32) (Post : Int32 → Prop) : Prop :=
  (((a1 : Int32) < 0) → (Post (-1))) ∧ ((¬ ((a1 : Int32) < 0)) → (((4 ≤ a1) → (Post (-1))) ∧ ((¬ (4 ≤ a1)) → (vp_in a1 4 ∧ (Post (cv S 50 0 (a1 : Int32).toNatClampNeg))))))
def zw_zd_X2_lengthOf_w0 : List Cond := [.fieldLink RX2 15 "TemplateForge$Data" "lengths" "[I"]
def zw_zd_X2_lengthOf : List Cond := .code yX2_lengthOf cX2_lengthOf 2 (some .int) :: ((zw_zd_X2_lengthOf_w0) ++ wsX20)
set_option maxHeartbeats 16000000 in
set_option maxRecDepth 100000 in
theorem zd_X2_lengthOf (l : Launch) (D : va_G) (cI cZ cP cF : Nat) (q : Nat → Nat → Nat) (S : CST) (a1 : Int32) (Post : Int32 → Prop) (h : wp_X2_lengthOf S a1 Post) : Met l yX2_lengthOf zw_zd_X2_lengthOf ({ frames := 0, cells := 0, slots := 0, locals := 0 }) (va_Pc [.ref (q 3 0), .int a1] (fun U => va_P D vwCl (cW cI cZ cP cF q S) U.heap ∧ zE D cI cZ cP cF U)) (vp_Si Post) 0 0 (fun _ => False) := by
  unfold wp_X2_lengthOf at h
  refine Met.ofW (cc := cX2_lengthOf) (maxL := 2) (ret := (some .int)) (by decide) rfl ?_
  intro p e s m args below meth c s₁ B hml hv
  obtain ⟨rfl, hP, hE⟩ := hv
  have hx := B.exec
  have hb := B.bytes
  have hr := B.returns
  have hts := atoms_spec (ws := zw_zd_X2_lengthOf) B.pre
  have hown : s.vm.findClass RX2 = some m.cls := findClass_of_methodNamed B.named
  have hlocks := B.notSynchronized
  have hK := hE.k
  have hl := lv_entry ([.ref (q 3 0), .int a1]) (n := 2) (Nat.le_of_ble_eq_true rfl)
  rw [lg_entry_eq]
  generalize (lg_sl ([.ref (q 3 0), .int a1]) ++ List.replicate (2 - (lg_sl ([.ref (q 3 0), .int a1])).length) Slot.unset).toArray = ls at hl ⊢
  have hl : lv_has ls 2 [(0, .ref (q 3 0)), (1, .int a1)] := hl
  refine lv_iload_n hx hb dX2_lengthOf_0 rfl (lv_at hl 1 rfl) ?_
  refine lv_if_lt (tgt := 18) hx hb dX2_lengthOf_1 (by decide) (fun c_1 => ?_) (fun c_1 => ?_)
  · have h := h.1 c_1
    refine lv_iconst (v := (-1)) hx hb dX2_lengthOf_18 (by decide) ?_
    exact W.iret (v := (-1)) hx hb hr (fun t ht hW => ⟨_, rfl, h, ht⟩) (fun q h => by cases h) dX2_lengthOf_19
  · have h := h.2 c_1
    refine lv_iload_n hx hb dX2_lengthOf_4 rfl (lv_at hl 1 rfl) ?_
    refine lv_iconst (v := 4) hx hb dX2_lengthOf_5 (by decide) ?_
    refine lv_icmp_ge (tgt := 18) hx hb dX2_lengthOf_6 (by decide) (fun c_2 => ?_) (fun c_2 => ?_)
    · have h := h.1 c_2
      refine lv_iconst (v := (-1)) hx hb dX2_lengthOf_18 (by decide) ?_
      exact W.iret (v := (-1)) hx hb hr (fun t ht hW => ⟨_, rfl, h, ht⟩) (fun q h => by cases h) dX2_lengthOf_19
    · have h := h.2 c_2
      refine lv_aload_n hx hb dX2_lengthOf_9 rfl (lv_at hl 0 rfl) ?_
      obtain ⟨p_3, hp_3⟩ := cget_3 cI cZ cP cF q S
      have hi_3 : cin S 3 0 := Or.inl ⟨by decide, rfl⟩
      refine va_get (D := D) (ci := 2) (v := .ref (q 5 0)) (C := RX2) (T := TX2) (N := 3) hx hb hts (fun _ h => List.mem_cons_of_mem _ (List.mem_append_right _ h)) hown hK hP p_3 hp_3 rfl 1 (by decide) (hts (.fieldLink RX2 15 "TemplateForge$Data" "lengths" "[I") (List.mem_of_getElem? (i := 1) rfl)) (fun _ h9 => h9) rfl dX2_lengthOf_10 ?_
      refine lv_iload_n hx hb dX2_lengthOf_13 rfl (lv_at hl 1 rfl) ?_
      obtain ⟨p_4, hp_4⟩ := cget_5 cI cZ cP cF q S
      have hi_4 : cin S 5 0 := Or.inl ⟨by decide, rfl⟩
      have hin_4 := h.1
      have h := h.2
      refine va_iald hx hb hK hP p_4 0 hp_4 rfl hin_4 dX2_lengthOf_14 ?_
      refine lv_goto (tgt := 19) hx hb dX2_lengthOf_15 (by decide) ?_
      exact W.iret (v := cv S 50 0 (a1 : Int32).toNatClampNeg) hx hb hr (fun t ht hW => ⟨_, rfl, h, ht⟩) (fun q h => by cases h) dX2_lengthOf_19

def wp_X10_ofTrap (S : CST) (a1 : Int32) (Post : Int32 → Prop) : Prop :=
  (((a1 : Int32) < 0) → (Post (-2))) ∧ ((¬ ((a1 : Int32) < 0)) → (((4 ≤ a1) → (Post (-2))) ∧ ((¬ (4 ≤ a1)) → (vp_in a1 4 ∧ (Post (cv S 210 0 (a1 : Int32).toNatClampNeg))))))
def zw_zd_X10_ofTrap_w0 : List Cond := [.fieldLink RX10 9 "TemplateForge$Tally" "trap" "[I"]
def zw_zd_X10_ofTrap : List Cond := .code yX10_ofTrap cX10_ofTrap 2 (some .int) :: ((zw_zd_X10_ofTrap_w0) ++ wsX100)
set_option maxHeartbeats 16000000 in
set_option maxRecDepth 100000 in
theorem zd_X10_ofTrap (l : Launch) (D : va_G) (cI cZ cP cF : Nat) (q : Nat → Nat → Nat) (S : CST) (a1 : Int32) (Post : Int32 → Prop) (h : wp_X10_ofTrap S a1 Post) : Met l yX10_ofTrap zw_zd_X10_ofTrap ({ frames := 0, cells := 0, slots := 0, locals := 0 }) (va_Pc [.ref (q 20 0), .int a1] (fun U => va_P D vwCl (cW cI cZ cP cF q S) U.heap ∧ zE D cI cZ cP cF U)) (vp_Si Post) 0 0 (fun _ => False) := by
  unfold wp_X10_ofTrap at h
  refine Met.ofW (cc := cX10_ofTrap) (maxL := 2) (ret := (some .int)) (by decide) rfl ?_
  intro p e s m args below meth c s₁ B hml hv
  obtain ⟨rfl, hP, hE⟩ := hv
  have hx := B.exec
  have hb := B.bytes
  have hr := B.returns
  have hts := atoms_spec (ws := zw_zd_X10_ofTrap) B.pre
  have hown : s.vm.findClass RX10 = some m.cls := findClass_of_methodNamed B.named
  have hlocks := B.notSynchronized
  have hK := hE.k
  have hl := lv_entry ([.ref (q 20 0), .int a1]) (n := 2) (Nat.le_of_ble_eq_true rfl)
  rw [lg_entry_eq]
  generalize (lg_sl ([.ref (q 20 0), .int a1]) ++ List.replicate (2 - (lg_sl ([.ref (q 20 0), .int a1])).length) Slot.unset).toArray = ls at hl ⊢
  have hl : lv_has ls 2 [(0, .ref (q 20 0)), (1, .int a1)] := hl
  refine lv_iload_n hx hb dX10_ofTrap_0 rfl (lv_at hl 1 rfl) ?_
  refine lv_if_lt (tgt := 18) hx hb dX10_ofTrap_1 (by decide) (fun c_1 => ?_) (fun c_1 => ?_)
  · have h := h.1 c_1
    refine lv_bipush (v := (-2)) hx hb dX10_ofTrap_18 (by decide) ?_
    exact W.iret (v := (-2)) hx hb hr (fun t ht hW => ⟨_, rfl, h, ht⟩) (fun q h => by cases h) dX10_ofTrap_20
  · have h := h.2 c_1
    refine lv_iload_n hx hb dX10_ofTrap_4 rfl (lv_at hl 1 rfl) ?_
    refine lv_iconst (v := 4) hx hb dX10_ofTrap_5 (by decide) ?_
    refine lv_icmp_ge (tgt := 18) hx hb dX10_ofTrap_6 (by decide) (fun c_2 => ?_) (fun c_2 => ?_)
    · have h := h.1 c_2
      refine lv_bipush (v := (-2)) hx hb dX10_ofTrap_18 (by decide) ?_
      exact W.iret (v := (-2)) hx hb hr (fun t ht hW => ⟨_, rfl, h, ht⟩) (fun q h => by cases h) dX10_ofTrap_20
    · have h := h.2 c_2
      refine lv_aload_n hx hb dX10_ofTrap_9 rfl (lv_at hl 0 rfl) ?_
      obtain ⟨p_3, hp_3⟩ := cget_20 cI cZ cP cF q S
      have hi_3 : cin S 20 0 := Or.inl ⟨by decide, rfl⟩
      refine va_get (D := D) (ci := 10) (v := .ref (q 21 0)) (C := RX10) (T := TX10) (N := 7) hx hb hts (fun _ h => List.mem_cons_of_mem _ (List.mem_append_right _ h)) hown hK hP p_3 hp_3 rfl 6 (by decide) (hts (.fieldLink RX10 9 "TemplateForge$Tally" "trap" "[I") (List.mem_of_getElem? (i := 1) rfl)) (fun _ h9 => h9) rfl dX10_ofTrap_10 ?_
      refine lv_iload_n hx hb dX10_ofTrap_13 rfl (lv_at hl 1 rfl) ?_
      obtain ⟨p_4, hp_4⟩ := cget_21 cI cZ cP cF q S
      have hi_4 : cin S 21 0 := Or.inl ⟨by decide, rfl⟩
      have hin_4 := h.1
      have h := h.2
      refine va_iald hx hb hK hP p_4 0 hp_4 rfl hin_4 dX10_ofTrap_14 ?_
      refine lv_goto (tgt := 20) hx hb dX10_ofTrap_15 (by decide) ?_
      exact W.iret (v := cv S 210 0 (a1 : Int32).toNatClampNeg) hx hb hr (fun t ht hW => ⟨_, rfl, h, ht⟩) (fun q h => by cases h) dX10_ofTrap_20

def wp_X8_has (S : CST) (i : Nat) (a1 : Int32) (Post : Int32 → Prop) : Prop :=
  (((a1 : Int32) < 0) → (Post 0)) ∧ ((¬ ((a1 : Int32) < 0)) → (cin S 24 i ∧ ((((cv S 247 i 0) ≤ a1) → (Post 0)) ∧ ((¬ ((cv S 247 i 0) ≤ a1)) → (((60 ≤ a1) → (Post 0)) ∧ ((¬ (60 ≤ a1)) → (Post 1)))))))
def zw_zd_X8_has_w0 : List Cond := [.fieldLink RX8 41 "TemplateForge$Program" "length" "I"]
def zw_zd_X8_has : List Cond := .code yX8_has cX8_has 2 (some .boolean) :: ((zw_zd_X8_has_w0) ++ wsX80)
set_option maxHeartbeats 16000000 in
set_option maxRecDepth 100000 in
theorem zd_X8_has (l : Launch) (D : va_G) (cI cZ cP cF : Nat) (q : Nat → Nat → Nat) (S : CST) (i : Nat) (a1 : Int32) (Post : Int32 → Prop) (h : wp_X8_has S i a1 Post) : Met l yX8_has zw_zd_X8_has ({ frames := 0, cells := 0, slots := 0, locals := 0 }) (va_Pc [.ref (q 24 i), .int a1] (fun U => va_P D vwCl (cW cI cZ cP cF q S) U.heap ∧ zE D cI cZ cP cF U)) (vp_Si Post) 0 0 (fun _ => False) := by
  unfold wp_X8_has at h
  refine Met.ofW (cc := cX8_has) (maxL := 2) (ret := (some .boolean)) (by decide) rfl ?_
  intro p e s m args below meth c s₁ B hml hv
  obtain ⟨rfl, hP, hE⟩ := hv
  have hx := B.exec
  have hb := B.bytes
  have hr := B.returns
  have hts := atoms_spec (ws := zw_zd_X8_has) B.pre
  have hown : s.vm.findClass RX8 = some m.cls := findClass_of_methodNamed B.named
  have hlocks := B.notSynchronized
  have hK := hE.k
  have hl := lv_entry ([.ref (q 24 i), .int a1]) (n := 2) (Nat.le_of_ble_eq_true rfl)
  rw [lg_entry_eq]
  generalize (lg_sl ([.ref (q 24 i), .int a1]) ++ List.replicate (2 - (lg_sl ([.ref (q 24 i), .int a1])).length) Slot.unset).toArray = ls at hl ⊢
  have hl : lv_has ls 2 [(0, .ref (q 24 i)), (1, .int a1)] := hl
  refine lv_iload_n hx hb dX8_has_0 rfl (lv_at hl 1 rfl) ?_
  refine lv_if_lt (tgt := 22) hx hb dX8_has_1 (by decide) (fun c_1 => ?_) (fun c_1 => ?_)
  · have h := h.1 c_1
    refine lv_iconst (v := 0) hx hb dX8_has_22 (by decide) ?_
    exact W.zret (v := 0) (ty := .boolean) hx hb hr (by decide) (fun t ht hW => ⟨_, rfl, h, ht⟩) (fun q h => by cases h) dX8_has_23
  · have h := h.2 c_1
    refine lv_iload_n hx hb dX8_has_4 rfl (lv_at hl 1 rfl) ?_
    refine lv_aload_n hx hb dX8_has_5 rfl (lv_at hl 0 rfl) ?_
    have hi_2 := h.1
    have h := h.2
    obtain ⟨p_2, hp_2⟩ := cget_24 cI cZ cP cF q S hi_2
    refine va_get (D := D) (ci := 8) (v := .int (cv S 247 i 0)) (C := RX8) (T := TX8) (N := 10) hx hb hts (fun _ h => List.mem_cons_of_mem _ (List.mem_append_right _ h)) hown hK hP p_2 hp_2 rfl 7 (by decide) (hts (.fieldLink RX8 41 "TemplateForge$Program" "length" "I") (List.mem_of_getElem? (i := 1) rfl)) (fun _ h9 => h9) rfl dX8_has_6 ?_
    refine lv_icmp_ge (tgt := 22) hx hb dX8_has_9 (by decide) (fun c_3 => ?_) (fun c_3 => ?_)
    · have h := h.1 c_3
      refine lv_iconst (v := 0) hx hb dX8_has_22 (by decide) ?_
      exact W.zret (v := 0) (ty := .boolean) hx hb hr (by decide) (fun t ht hW => ⟨_, rfl, h, ht⟩) (fun q h => by cases h) dX8_has_23
    · have h := h.2 c_3
      refine lv_iload_n hx hb dX8_has_12 rfl (lv_at hl 1 rfl) ?_
      refine lv_bipush (v := 60) hx hb dX8_has_13 (by decide) ?_
      refine lv_icmp_ge (tgt := 22) hx hb dX8_has_15 (by decide) (fun c_4 => ?_) (fun c_4 => ?_)
      · have h := h.1 c_4
        refine lv_iconst (v := 0) hx hb dX8_has_22 (by decide) ?_
        exact W.zret (v := 0) (ty := .boolean) hx hb hr (by decide) (fun t ht hW => ⟨_, rfl, h, ht⟩) (fun q h => by cases h) dX8_has_23
      · have h := h.2 c_4
        refine lv_iconst (v := 1) hx hb dX8_has_18 (by decide) ?_
        refine lv_goto (tgt := 23) hx hb dX8_has_19 (by decide) ?_
        exact W.zret (v := 1) (ty := .boolean) hx hb hr (by decide) (fun t ht hW => ⟨_, rfl, h, ht⟩) (fun q h => by cases h) dX8_has_23

def wp_X3_parts (S : CST) (Post : Int32 → Prop) : Prop :=
  Post (cv S 72 0 0)
def zw_zd_X3_parts_w0 : List Cond := [.fieldLink RX3 18 "TemplateForge$Draft" "parts" "I"]
def zw_zd_X3_parts : List Cond := .code yX3_parts cX3_parts 1 (some .int) :: ((zw_zd_X3_parts_w0) ++ wsX30)
set_option maxHeartbeats 16000000 in
set_option maxRecDepth 100000 in
theorem zd_X3_parts (l : Launch) (D : va_G) (cI cZ cP cF : Nat) (q : Nat → Nat → Nat) (S : CST) (Post : Int32 → Prop) (h : wp_X3_parts S Post) : Met l yX3_parts zw_zd_X3_parts ({ frames := 0, cells := 0, slots := 0, locals := 0 }) (va_Pc [.ref (q 7 0)] (fun U => va_P D vwCl (cW cI cZ cP cF q S) U.heap ∧ zE D cI cZ cP cF U)) (vp_Si Post) 0 0 (fun _ => False) := by
  unfold wp_X3_parts at h
  refine Met.ofW (cc := cX3_parts) (maxL := 1) (ret := (some .int)) (by decide) rfl ?_
  intro p e s m args below meth c s₁ B hml hv
  obtain ⟨rfl, hP, hE⟩ := hv
  have hx := B.exec
  have hb := B.bytes
  have hr := B.returns
  have hts := atoms_spec (ws := zw_zd_X3_parts) B.pre
  have hown : s.vm.findClass RX3 = some m.cls := findClass_of_methodNamed B.named
  have hlocks := B.notSynchronized
  have hK := hE.k
  have hl := lv_entry ([.ref (q 7 0)]) (n := 1) (Nat.le_of_ble_eq_true rfl)
  rw [lg_entry_eq]
  generalize (lg_sl ([.ref (q 7 0)]) ++ List.replicate (1 - (lg_sl ([.ref (q 7 0)])).length) Slot.unset).toArray = ls at hl ⊢
  have hl : lv_has ls 1 [(0, .ref (q 7 0))] := hl
  refine lv_aload_n hx hb dX3_parts_0 rfl (lv_at hl 0 rfl) ?_
  obtain ⟨p_1, hp_1⟩ := cget_7 cI cZ cP cF q S
  have hi_1 : cin S 7 0 := Or.inl ⟨by decide, rfl⟩
  refine va_get (D := D) (ci := 3) (v := .int (cv S 72 0 0)) (C := RX3) (T := TX3) (N := 3) hx hb hts (fun _ h => List.mem_cons_of_mem _ (List.mem_append_right _ h)) hown hK hP p_1 hp_1 rfl 2 (by decide) (hts (.fieldLink RX3 18 "TemplateForge$Draft" "parts" "I") (List.mem_of_getElem? (i := 1) rfl)) (fun _ h9 => h9) rfl dX3_parts_1 ?_
  exact W.iret (v := cv S 72 0 0) hx hb hr (fun t ht hW => ⟨_, rfl, h, ht⟩) (fun q h => by cases h) dX3_parts_4

def wp_X5_valueOf (S : CST) (i : Nat) (a1 : Int32) (Post : Int32 → Prop) : Prop :=
  (((a1 : Int32) < 0) → (Post 0)) ∧ ((¬ ((a1 : Int32) < 0)) → (((11 ≤ a1) → (Post 0)) ∧ ((¬ (11 ≤ a1)) → (cin S 28 i ∧ (cin S 29 i ∧ vp_in a1 11 ∧ (Post (cv S 290 i (a1 : Int32).toNatClampNeg)))))))
def zw_zd_X5_valueOf_w0 : List Cond := [.fieldLink RX5 9 "TemplateForge$Heat" "first" "[I"]
def zw_zd_X5_valueOf : List Cond := .code yX5_valueOf cX5_valueOf 2 (some .int) :: ((zw_zd_X5_valueOf_w0) ++ wsX50)
set_option maxHeartbeats 16000000 in
set_option maxRecDepth 100000 in
theorem zd_X5_valueOf (l : Launch) (D : va_G) (cI cZ cP cF : Nat) (q : Nat → Nat → Nat) (S : CST) (i : Nat) (a1 : Int32) (Post : Int32 → Prop) (h : wp_X5_valueOf S i a1 Post) : Met l yX5_valueOf zw_zd_X5_valueOf ({ frames := 0, cells := 0, slots := 0, locals := 0 }) (va_Pc [.ref (q 28 i), .int a1] (fun U => va_P D vwCl (cW cI cZ cP cF q S) U.heap ∧ zE D cI cZ cP cF U)) (vp_Si Post) 0 0 (fun _ => False) := by
  unfold wp_X5_valueOf at h
  refine Met.ofW (cc := cX5_valueOf) (maxL := 2) (ret := (some .int)) (by decide) rfl ?_
  intro p e s m args below meth c s₁ B hml hv
  obtain ⟨rfl, hP, hE⟩ := hv
  have hx := B.exec
  have hb := B.bytes
  have hr := B.returns
  have hts := atoms_spec (ws := zw_zd_X5_valueOf) B.pre
  have hown : s.vm.findClass RX5 = some m.cls := findClass_of_methodNamed B.named
  have hlocks := B.notSynchronized
  have hK := hE.k
  have hl := lv_entry ([.ref (q 28 i), .int a1]) (n := 2) (Nat.le_of_ble_eq_true rfl)
  rw [lg_entry_eq]
  generalize (lg_sl ([.ref (q 28 i), .int a1]) ++ List.replicate (2 - (lg_sl ([.ref (q 28 i), .int a1])).length) Slot.unset).toArray = ls at hl ⊢
  have hl : lv_has ls 2 [(0, .ref (q 28 i)), (1, .int a1)] := hl
  refine lv_iload_n hx hb dX5_valueOf_0 rfl (lv_at hl 1 rfl) ?_
  refine lv_if_lt (tgt := 19) hx hb dX5_valueOf_1 (by decide) (fun c_1 => ?_) (fun c_1 => ?_)
  · have h := h.1 c_1
    refine lv_iconst (v := 0) hx hb dX5_valueOf_19 (by decide) ?_
    exact W.iret (v := 0) hx hb hr (fun t ht hW => ⟨_, rfl, h, ht⟩) (fun q h => by cases h) dX5_valueOf_20
  · have h := h.2 c_1
    refine lv_iload_n hx hb dX5_valueOf_4 rfl (lv_at hl 1 rfl) ?_
    refine lv_bipush (v := 11) hx hb dX5_valueOf_5 (by decide) ?_
    refine lv_icmp_ge (tgt := 19) hx hb dX5_valueOf_7 (by decide) (fun c_2 => ?_) (fun c_2 => ?_)
    · have h := h.1 c_2
      refine lv_iconst (v := 0) hx hb dX5_valueOf_19 (by decide) ?_
      exact W.iret (v := 0) hx hb hr (fun t ht hW => ⟨_, rfl, h, ht⟩) (fun q h => by cases h) dX5_valueOf_20
    · have h := h.2 c_2
      refine lv_aload_n hx hb dX5_valueOf_10 rfl (lv_at hl 0 rfl) ?_
      have hi_3 := h.1
      have h := h.2
      obtain ⟨p_3, hp_3⟩ := cget_28 cI cZ cP cF q S hi_3
      refine va_get (D := D) (ci := 5) (v := .ref (q 29 i)) (C := RX5) (T := TX5) (N := 9) hx hb hts (fun _ h => List.mem_cons_of_mem _ (List.mem_append_right _ h)) hown hK hP p_3 hp_3 rfl 6 (by decide) (hts (.fieldLink RX5 9 "TemplateForge$Heat" "first" "[I") (List.mem_of_getElem? (i := 1) rfl)) (fun _ h9 => h9) rfl dX5_valueOf_11 ?_
      refine lv_iload_n hx hb dX5_valueOf_14 rfl (lv_at hl 1 rfl) ?_
      have hi_4 := h.1
      have h := h.2
      obtain ⟨p_4, hp_4⟩ := cget_29 cI cZ cP cF q S hi_4
      have hin_4 := h.1
      have h := h.2
      refine va_iald hx hb hK hP p_4 0 hp_4 rfl hin_4 dX5_valueOf_15 ?_
      refine lv_goto (tgt := 20) hx hb dX5_valueOf_16 (by decide) ?_
      exact W.iret (v := cv S 290 i (a1 : Int32).toNatClampNeg) hx hb hr (fun t ht hW => ⟨_, rfl, h, ht⟩) (fun q h => by cases h) dX5_valueOf_20

def wp_X9_isKnown (S : CST) (a1 : Int32) (Post : Int32 → Prop) : Prop :=
  (((a1 : Int32) < 0) → (Post 0)) ∧ ((¬ ((a1 : Int32) < 0)) → (((15 ≤ a1) → (Post 0)) ∧ ((¬ (15 ≤ a1)) → (vp_in a1 15 ∧ (((((cv S 160 0 (a1 : Int32).toNatClampNeg) : Int32) = 0) → (Post 0)) ∧ ((¬ (((cv S 160 0 (a1 : Int32).toNatClampNeg) : Int32) = 0)) → (Post 1)))))))
def zw_zd_X9_isKnown_w0 : List Cond := [.fieldLink RX9 9 "TemplateForge$Smith" "known" "[Z"]
def zw_zd_X9_isKnown : List Cond := .code yX9_isKnown cX9_isKnown 2 (some .boolean) :: ((zw_zd_X9_isKnown_w0) ++ wsX90)
set_option maxHeartbeats 16000000 in
set_option maxRecDepth 100000 in
theorem zd_X9_isKnown (l : Launch) (D : va_G) (cI cZ cP cF : Nat) (q : Nat → Nat → Nat) (S : CST) (a1 : Int32) (Post : Int32 → Prop) (h : wp_X9_isKnown S a1 Post) : Met l yX9_isKnown zw_zd_X9_isKnown ({ frames := 0, cells := 0, slots := 0, locals := 0 }) (va_Pc [.ref (q 15 0), .int a1] (fun U => va_P D vwCl (cW cI cZ cP cF q S) U.heap ∧ zE D cI cZ cP cF U)) (vp_Si Post) 0 0 (fun _ => False) := by
  unfold wp_X9_isKnown at h
  refine Met.ofW (cc := cX9_isKnown) (maxL := 2) (ret := (some .boolean)) (by decide) rfl ?_
  intro p e s m args below meth c s₁ B hml hv
  obtain ⟨rfl, hP, hE⟩ := hv
  have hx := B.exec
  have hb := B.bytes
  have hr := B.returns
  have hts := atoms_spec (ws := zw_zd_X9_isKnown) B.pre
  have hown : s.vm.findClass RX9 = some m.cls := findClass_of_methodNamed B.named
  have hlocks := B.notSynchronized
  have hK := hE.k
  have hl := lv_entry ([.ref (q 15 0), .int a1]) (n := 2) (Nat.le_of_ble_eq_true rfl)
  rw [lg_entry_eq]
  generalize (lg_sl ([.ref (q 15 0), .int a1]) ++ List.replicate (2 - (lg_sl ([.ref (q 15 0), .int a1])).length) Slot.unset).toArray = ls at hl ⊢
  have hl : lv_has ls 2 [(0, .ref (q 15 0)), (1, .int a1)] := hl
  refine lv_iload_n hx hb dX9_isKnown_0 rfl (lv_at hl 1 rfl) ?_
  refine lv_if_lt (tgt := 23) hx hb dX9_isKnown_1 (by decide) (fun c_1 => ?_) (fun c_1 => ?_)
  · have h := h.1 c_1
    refine lv_iconst (v := 0) hx hb dX9_isKnown_23 (by decide) ?_
    exact W.zret (v := 0) (ty := .boolean) hx hb hr (by decide) (fun t ht hW => ⟨_, rfl, h, ht⟩) (fun q h => by cases h) dX9_isKnown_24
  · have h := h.2 c_1
    refine lv_iload_n hx hb dX9_isKnown_4 rfl (lv_at hl 1 rfl) ?_
    refine lv_bipush (v := 15) hx hb dX9_isKnown_5 (by decide) ?_
    refine lv_icmp_ge (tgt := 23) hx hb dX9_isKnown_7 (by decide) (fun c_2 => ?_) (fun c_2 => ?_)
    · have h := h.1 c_2
      refine lv_iconst (v := 0) hx hb dX9_isKnown_23 (by decide) ?_
      exact W.zret (v := 0) (ty := .boolean) hx hb hr (by decide) (fun t ht hW => ⟨_, rfl, h, ht⟩) (fun q h => by cases h) dX9_isKnown_24
    · have h := h.2 c_2
      refine lv_aload_n hx hb dX9_isKnown_10 rfl (lv_at hl 0 rfl) ?_
      obtain ⟨p_3, hp_3⟩ := cget_15 cI cZ cP cF q S
      have hi_3 : cin S 15 0 := Or.inl ⟨by decide, rfl⟩
      refine va_get (D := D) (ci := 9) (v := .ref (q 16 0)) (C := RX9) (T := TX9) (N := 5) hx hb hts (fun _ h => List.mem_cons_of_mem _ (List.mem_append_right _ h)) hown hK hP p_3 hp_3 rfl 1 (by decide) (hts (.fieldLink RX9 9 "TemplateForge$Smith" "known" "[Z") (List.mem_of_getElem? (i := 1) rfl)) (fun _ h9 => h9) rfl dX9_isKnown_11 ?_
      refine lv_iload_n hx hb dX9_isKnown_14 rfl (lv_at hl 1 rfl) ?_
      obtain ⟨p_4, hp_4⟩ := cget_16 cI cZ cP cF q S
      have hi_4 : cin S 16 0 := Or.inl ⟨by decide, rfl⟩
      have hin_4 := h.1
      have h := h.2
      refine va_zald hx hb hK hP p_4 1 hp_4 rfl hin_4 dX9_isKnown_15 ?_
      refine lv_if_eq (tgt := 23) hx hb dX9_isKnown_16 (by decide) (fun c_5 => ?_) (fun c_5 => ?_)
      · have h := h.1 c_5
        refine lv_iconst (v := 0) hx hb dX9_isKnown_23 (by decide) ?_
        exact W.zret (v := 0) (ty := .boolean) hx hb hr (by decide) (fun t ht hW => ⟨_, rfl, h, ht⟩) (fun q h => by cases h) dX9_isKnown_24
      · have h := h.2 c_5
        refine lv_iconst (v := 1) hx hb dX9_isKnown_19 (by decide) ?_
        refine lv_goto (tgt := 24) hx hb dX9_isKnown_20 (by decide) ?_
        exact W.zret (v := 1) (ty := .boolean) hx hb hr (by decide) (fun t ht hW => ⟨_, rfl, h, ht⟩) (fun q h => by cases h) dX9_isKnown_24

def wp_X9_worthOf (S : CST) (a1 : Int32) (Post : Int32 → Prop) : Prop :=
  (((a1 : Int32) < 0) → (Post 0)) ∧ ((¬ ((a1 : Int32) < 0)) → (((15 ≤ a1) → (Post 0)) ∧ ((¬ (15 ≤ a1)) → (vp_in a1 15 ∧ (Post (cv S 170 0 (a1 : Int32).toNatClampNeg))))))
def zw_zd_X9_worthOf_w0 : List Cond := [.fieldLink RX9 15 "TemplateForge$Smith" "worth" "[I"]
def zw_zd_X9_worthOf : List Cond := .code yX9_worthOf cX9_worthOf 2 (some .int) :: ((zw_zd_X9_worthOf_w0) ++ wsX90)
set_option maxHeartbeats 16000000 in
set_option maxRecDepth 100000 in
theorem zd_X9_worthOf (l : Launch) (D : va_G) (cI cZ cP cF : Nat) (q : Nat → Nat → Nat) (S : CST) (a1 : Int32) (Post : Int32 → Prop) (h : wp_X9_worthOf S a1 Post) : Met l yX9_worthOf zw_zd_X9_worthOf ({ frames := 0, cells := 0, slots := 0, locals := 0 }) (va_Pc [.ref (q 15 0), .int a1] (fun U => va_P D vwCl (cW cI cZ cP cF q S) U.heap ∧ zE D cI cZ cP cF U)) (vp_Si Post) 0 0 (fun _ => False) := by
  unfold wp_X9_worthOf at h
  refine Met.ofW (cc := cX9_worthOf) (maxL := 2) (ret := (some .int)) (by decide) rfl ?_
  intro p e s m args below meth c s₁ B hml hv
  obtain ⟨rfl, hP, hE⟩ := hv
  have hx := B.exec
  have hb := B.bytes
  have hr := B.returns
  have hts := atoms_spec (ws := zw_zd_X9_worthOf) B.pre
  have hown : s.vm.findClass RX9 = some m.cls := findClass_of_methodNamed B.named
  have hlocks := B.notSynchronized
  have hK := hE.k
  have hl := lv_entry ([.ref (q 15 0), .int a1]) (n := 2) (Nat.le_of_ble_eq_true rfl)
  rw [lg_entry_eq]
  generalize (lg_sl ([.ref (q 15 0), .int a1]) ++ List.replicate (2 - (lg_sl ([.ref (q 15 0), .int a1])).length) Slot.unset).toArray = ls at hl ⊢
  have hl : lv_has ls 2 [(0, .ref (q 15 0)), (1, .int a1)] := hl
  refine lv_iload_n hx hb dX9_worthOf_0 rfl (lv_at hl 1 rfl) ?_
  refine lv_if_lt (tgt := 19) hx hb dX9_worthOf_1 (by decide) (fun c_1 => ?_) (fun c_1 => ?_)
  · have h := h.1 c_1
    refine lv_iconst (v := 0) hx hb dX9_worthOf_19 (by decide) ?_
    exact W.iret (v := 0) hx hb hr (fun t ht hW => ⟨_, rfl, h, ht⟩) (fun q h => by cases h) dX9_worthOf_20
  · have h := h.2 c_1
    refine lv_iload_n hx hb dX9_worthOf_4 rfl (lv_at hl 1 rfl) ?_
    refine lv_bipush (v := 15) hx hb dX9_worthOf_5 (by decide) ?_
    refine lv_icmp_ge (tgt := 19) hx hb dX9_worthOf_7 (by decide) (fun c_2 => ?_) (fun c_2 => ?_)
    · have h := h.1 c_2
      refine lv_iconst (v := 0) hx hb dX9_worthOf_19 (by decide) ?_
      exact W.iret (v := 0) hx hb hr (fun t ht hW => ⟨_, rfl, h, ht⟩) (fun q h => by cases h) dX9_worthOf_20
    · have h := h.2 c_2
      refine lv_aload_n hx hb dX9_worthOf_10 rfl (lv_at hl 0 rfl) ?_
      obtain ⟨p_3, hp_3⟩ := cget_15 cI cZ cP cF q S
      have hi_3 : cin S 15 0 := Or.inl ⟨by decide, rfl⟩
      refine va_get (D := D) (ci := 9) (v := .ref (q 17 0)) (C := RX9) (T := TX9) (N := 5) hx hb hts (fun _ h => List.mem_cons_of_mem _ (List.mem_append_right _ h)) hown hK hP p_3 hp_3 rfl 2 (by decide) (hts (.fieldLink RX9 15 "TemplateForge$Smith" "worth" "[I") (List.mem_of_getElem? (i := 1) rfl)) (fun _ h9 => h9) rfl dX9_worthOf_11 ?_
      refine lv_iload_n hx hb dX9_worthOf_14 rfl (lv_at hl 1 rfl) ?_
      obtain ⟨p_4, hp_4⟩ := cget_17 cI cZ cP cF q S
      have hi_4 : cin S 17 0 := Or.inl ⟨by decide, rfl⟩
      have hin_4 := h.1
      have h := h.2
      refine va_iald hx hb hK hP p_4 0 hp_4 rfl hin_4 dX9_worthOf_15 ?_
      refine lv_goto (tgt := 20) hx hb dX9_worthOf_16 (by decide) ?_
      exact W.iret (v := cv S 170 0 (a1 : Int32).toNatClampNeg) hx hb hr (fun t ht hW => ⟨_, rfl, h, ht⟩) (fun q h => by cases h) dX9_worthOf_20

def wp_X9_forget (S : CST) (a1 : Int32) (Post : CST → Prop) : Prop :=
  (((a1 : Int32) < 0) → (Post S)) ∧ ((¬ ((a1 : Int32) < 0)) → (((15 ≤ a1) → (Post S)) ∧ ((¬ (15 ≤ a1)) → (vp_in a1 15 ∧ (∀ S5 : CST, S5 = cs S 160 0 (upd (cv S 160 0) (a1 : Int32).toNatClampNeg (vp_nar .boolean 0)) → (Post S5))))))
def zw_zd_X9_forget_w0 : List Cond := [.fieldLink RX9 9 "TemplateForge$Smith" "known" "[Z"]
def zw_zd_X9_forget : List Cond := .code yX9_forget cX9_forget 2 none :: ((zw_zd_X9_forget_w0) ++ wsX90)
set_option maxHeartbeats 16000000 in
set_option maxRecDepth 100000 in
theorem zd_X9_forget (l : Launch) (D : va_G) (cI cZ cP cF : Nat) (q : Nat → Nat → Nat) (S : CST) (a1 : Int32) (sz : Nat) (Post : CST → Prop) (h : wp_X9_forget S a1 Post) : Met l yX9_forget zw_zd_X9_forget ({ frames := 0, cells := 0, slots := 0, locals := 0 }) (va_Pc [.ref (q 15 0), .int a1] (fun U => U.heap.size = sz ∧ va_P D vwCl (cW cI cZ cP cF q S) U.heap ∧ zE D cI cZ cP cF U ∧ va_D (fun _ => True) (cW cI cZ cP cF q S))) (va_Qv (fun S' => Post S') (fun (S' : CST) t => va_P D vwCl (cW cI cZ cP cF q S') t.heap ∧ va_D (va_A (cW cI cZ cP cF q S) sz) (cW cI cZ cP cF q S')) (va_A (cW cI cZ cP cF q S) sz)) 0 0 (va_A (cW cI cZ cP cF q S) sz) := by
  unfold wp_X9_forget at h
  refine Met.ofW (cc := cX9_forget) (maxL := 2) (ret := none) (by decide) rfl ?_
  intro p e s m args below meth c s₁ B hml hv
  obtain ⟨rfl, hsz, hP, hE, hD0⟩ := hv
  have hx := B.exec
  have hb := B.bytes
  have hr := B.returns
  have hts := atoms_spec (ws := zw_zd_X9_forget) B.pre
  have hown : s.vm.findClass RX9 = some m.cls := findClass_of_methodNamed B.named
  have hlocks := B.notSynchronized
  have hK := hE.k
  subst hsz
  have hD := hD0.self (sz := s.heap.size)
  generalize hAe : va_A (cW cI cZ cP cF q S) s.heap.size = A at hD ⊢
  have hA : ∀ q : Nat, s.heap.size ≤ q → A q := fun q h => by rw [← hAe]; exact Or.inr h
  have hl := lv_entry ([.ref (q 15 0), .int a1]) (n := 2) (Nat.le_of_ble_eq_true rfl)
  rw [lg_entry_eq]
  generalize (lg_sl ([.ref (q 15 0), .int a1]) ++ List.replicate (2 - (lg_sl ([.ref (q 15 0), .int a1])).length) Slot.unset).toArray = ls at hl ⊢
  have hl : lv_has ls 2 [(0, .ref (q 15 0)), (1, .int a1)] := hl
  have key : ∀ (H : Heap) (locs : List Loc), va_P D vwCl (cW cI cZ cP cF q S) H → va_S A s.heap H locs → W p l e (headSpec zw_zd_X9_forget ({ frames := 0, cells := 0, slots := 0, locals := 0 })).room s m ([.ref (q 15 0), .int a1] : List Value).toArray below meth c H locs 0 0 (MQ below (va_Qv (fun S' => Post S') (fun (S' : CST) t => va_P D vwCl (cW cI cZ cP cF q S') t.heap ∧ va_D A (cW cI cZ cP cF q S')) A) ([.ref (q 15 0), .int a1] : List Value).toArray s 0 0 A) (F0 m 0 ls []) := by
    intro H locs hP hS
    refine lv_iload_n hx hb dX9_forget_0 rfl (lv_at hl 1 rfl) ?_
    refine lv_if_lt (tgt := 17) hx hb dX9_forget_1 (by decide) (fun c_1 => ?_) (fun c_1 => ?_)
    · have h := h.1 c_1
      exact W.vret hx hb hr (fun t ht hW => ⟨⟨S, rfl, h, by rw [ht]; exact hP, hD⟩, hS.F ht⟩) hS.2.2 dX9_forget_17
    · have h := h.2 c_1
      refine lv_iload_n hx hb dX9_forget_4 rfl (lv_at hl 1 rfl) ?_
      refine lv_bipush (v := 15) hx hb dX9_forget_5 (by decide) ?_
      refine lv_icmp_ge (tgt := 17) hx hb dX9_forget_7 (by decide) (fun c_2 => ?_) (fun c_2 => ?_)
      · have h := h.1 c_2
        exact W.vret hx hb hr (fun t ht hW => ⟨⟨S, rfl, h, by rw [ht]; exact hP, hD⟩, hS.F ht⟩) hS.2.2 dX9_forget_17
      · have h := h.2 c_2
        refine lv_aload_n hx hb dX9_forget_10 rfl (lv_at hl 0 rfl) ?_
        obtain ⟨p_3, hp_3⟩ := cget_15 cI cZ cP cF q S
        have hi_3 : cin S 15 0 := Or.inl ⟨by decide, rfl⟩
        refine va_get (D := D) (ci := 9) (v := .ref (q 16 0)) (C := RX9) (T := TX9) (N := 5) hx hb hts (fun _ h => List.mem_cons_of_mem _ (List.mem_append_right _ h)) hown hK hP p_3 hp_3 rfl 1 (by decide) (hts (.fieldLink RX9 9 "TemplateForge$Smith" "known" "[Z") (List.mem_of_getElem? (i := 1) rfl)) (fun _ h9 => h9) rfl dX9_forget_11 ?_
        refine lv_iload_n hx hb dX9_forget_14 rfl (lv_at hl 1 rfl) ?_
        refine lv_iconst (v := 0) hx hb dX9_forget_15 (by decide) ?_
        obtain ⟨p_4, hp_4⟩ := cget_16 cI cZ cP cF q S
        have hi_4 : cin S 16 0 := Or.inl ⟨by decide, rfl⟩
        have hin_4 := h.1
        have h := h.2
        have hD0_4 := hD
        refine va_zast hx hb hK hP hD hS p_4 1 hp_4 rfl hin_4 dX9_forget_16 (fun H locs hP hD hS => ?_)
        obtain ⟨S5, eS5⟩ : ∃ z, z = cs S 160 0 (upd (cv S 160 0) (a1 : Int32).toNatClampNeg (vp_nar .boolean 0)) := ⟨_, rfl⟩
        have hP : va_P D vwCl (cW cI cZ cP cF q S5) H := by rw [eS5, ← cW_put (k := 160) (κ := 16) (i := 0) (g := (upd (cv S 160 0) (a1 : Int32).toNatClampNeg (vp_nar .boolean 0))) rfl hD0_4 hp_4 hi_4, cput_160]; exact hP
        have hD : va_D A (cW cI cZ cP cF q S5) := by rw [eS5, ← cW_put (k := 160) (κ := 16) (i := 0) (g := (upd (cv S 160 0) (a1 : Int32).toNatClampNeg (vp_nar .boolean 0))) rfl hD0_4 hp_4 hi_4, cput_160]; exact hD
        have h := h S5 eS5
        exact W.vret hx hb hr (fun t ht hW => ⟨⟨S5, rfl, h, by rw [ht]; exact hP, hD⟩, hS.F ht⟩) hS.2.2 dX9_forget_17
  exact key _ _ hP va_S.rf
