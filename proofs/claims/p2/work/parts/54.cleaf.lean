theorem zt_2_6 (x : Int32) : (x.toInt < 2 ∨ 6 < x.toInt) ∨ x = 2 ∨ x = 3 ∨ x = 4 ∨ x = 5 ∨ x = 6 := by
  by_cases h : x.toInt < 2 ∨ 6 < x.toInt
  · exact Or.inl h
  · right
    have e : ∀ c : Int32, x.toInt = c.toInt → x = c := fun c hc => Int32.toInt.inj hc
    rcases (show x.toInt = 2 ∨ x.toInt = 3 ∨ x.toInt = 4 ∨ x.toInt = 5 ∨ x.toInt = 6 by omega) with h | h | h | h | h
    · exact (Or.inl (e 2 (by rw [h]; decide)))
    · exact (Or.inr (Or.inl (e 3 (by rw [h]; decide))))
    · exact (Or.inr (Or.inr (Or.inl (e 4 (by rw [h]; decide)))))
    · exact (Or.inr (Or.inr (Or.inr (Or.inl (e 5 (by rw [h]; decide))))))
    · exact (Or.inr (Or.inr (Or.inr (Or.inr (e 6 (by rw [h]; decide))))))
def wp_X4_valueOf (S : CST) (i : Nat) (a1 : Int32) (Post : Int32 → Prop) : Prop :=
  (((a1 : Int32) < 0) → (Post 0)) ∧ ((¬ ((a1 : Int32) < 0)) → (((15 ≤ a1) → (Post 0)) ∧ ((¬ (15 ≤ a1)) → (cin S 22 i ∧ (cin S 23 i ∧ vp_in a1 15 ∧ (Post (cv S 230 i (a1 : Int32).toNatClampNeg)))))))
def zw_zd_X4_valueOf_w0 : List Cond := [.fieldLink RX4 9 "TemplateForge$Frame" "registers" "[I"]
def zw_zd_X4_valueOf : List Cond := .code yX4_valueOf cX4_valueOf 2 (some .int) :: ((zw_zd_X4_valueOf_w0) ++ wsX40)
set_option maxHeartbeats 16000000 in
set_option maxRecDepth 100000 in
theorem zd_X4_valueOf (l : Launch) (D : va_G) (cI cZ cP cF : Nat) (q : Nat → Nat → Nat) (S : CST) (i : Nat) (a1 : Int32) (Post : Int32 → Prop) (h : wp_X4_valueOf S i a1 Post) : Met l yX4_valueOf zw_zd_X4_valueOf ({ frames := 0, cells := 0, slots := 0, locals := 0 }) (va_Pc [.ref (q 22 i), .int a1] (fun U => va_P D vwCl (cW cI cZ cP cF q S) U.heap ∧ zE D cI cZ cP cF U)) (vp_Si Post) 0 0 (fun _ => False) := by
  unfold wp_X4_valueOf at h
  refine Met.ofW (cc := cX4_valueOf) (maxL := 2) (ret := (some .int)) (by decide) rfl ?_
  intro p e s m args below meth c s₁ B hml hv
  obtain ⟨rfl, hP, hE⟩ := hv
  have hx := B.exec
  have hb := B.bytes
  have hr := B.returns
  have hts := atoms_spec (ws := zw_zd_X4_valueOf) B.pre
  have hown : s.vm.findClass RX4 = some m.cls := findClass_of_methodNamed B.named
  have hlocks := B.notSynchronized
  have hK := hE.k
  have hl := lv_entry ([.ref (q 22 i), .int a1]) (n := 2) (Nat.le_of_ble_eq_true rfl)
  rw [lg_entry_eq]
  generalize (lg_sl ([.ref (q 22 i), .int a1]) ++ List.replicate (2 - (lg_sl ([.ref (q 22 i), .int a1])).length) Slot.unset).toArray = ls at hl ⊢
  have hl : lv_has ls 2 [(0, .ref (q 22 i)), (1, .int a1)] := hl
  refine lv_iload_n hx hb dX4_valueOf_0 rfl (lv_at hl 1 rfl) ?_
  refine lv_if_lt (tgt := 19) hx hb dX4_valueOf_1 (by decide) (fun c_1 => ?_) (fun c_1 => ?_)
  · have h := h.1 c_1
    refine lv_iconst (v := 0) hx hb dX4_valueOf_19 (by decide) ?_
    exact W.iret (v := 0) hx hb hr (fun t ht hW => ⟨_, rfl, h, ht⟩) (fun q h => by cases h) dX4_valueOf_20
  · have h := h.2 c_1
    refine lv_iload_n hx hb dX4_valueOf_4 rfl (lv_at hl 1 rfl) ?_
    refine lv_bipush (v := 15) hx hb dX4_valueOf_5 (by decide) ?_
    refine lv_icmp_ge (tgt := 19) hx hb dX4_valueOf_7 (by decide) (fun c_2 => ?_) (fun c_2 => ?_)
    · have h := h.1 c_2
      refine lv_iconst (v := 0) hx hb dX4_valueOf_19 (by decide) ?_
      exact W.iret (v := 0) hx hb hr (fun t ht hW => ⟨_, rfl, h, ht⟩) (fun q h => by cases h) dX4_valueOf_20
    · have h := h.2 c_2
      refine lv_aload_n hx hb dX4_valueOf_10 rfl (lv_at hl 0 rfl) ?_
      have hi_3 := h.1
      have h := h.2
      obtain ⟨p_3, hp_3⟩ := cget_22 cI cZ cP cF q S hi_3
      refine va_get (D := D) (ci := 4) (v := .ref (q 23 i)) (C := RX4) (T := TX4) (N := 5) hx hb hts (fun _ h => List.mem_cons_of_mem _ (List.mem_append_right _ h)) hown hK hP p_3 hp_3 rfl 4 (by decide) (hts (.fieldLink RX4 9 "TemplateForge$Frame" "registers" "[I") (List.mem_of_getElem? (i := 1) rfl)) (fun _ h9 => h9) rfl dX4_valueOf_11 ?_
      refine lv_iload_n hx hb dX4_valueOf_14 rfl (lv_at hl 1 rfl) ?_
      have hi_4 := h.1
      have h := h.2
      obtain ⟨p_4, hp_4⟩ := cget_23 cI cZ cP cF q S hi_4
      have hin_4 := h.1
      have h := h.2
      refine va_iald hx hb hK hP p_4 0 hp_4 rfl hin_4 dX4_valueOf_15 ?_
      refine lv_goto (tgt := 20) hx hb dX4_valueOf_16 (by decide) ?_
      exact W.iret (v := cv S 230 i (a1 : Int32).toNatClampNeg) hx hb hr (fun t ht hW => ⟨_, rfl, h, ht⟩) (fun q h => by cases h) dX4_valueOf_20

def wp_X4_put (S : CST) (i : Nat) (a1 : Int32) (a2 : Int32) (Post : CST → Prop) : Prop :=
  (((a1 : Int32) < 0) → (Post S)) ∧ ((¬ ((a1 : Int32) < 0)) → (((15 ≤ a1) → (Post S)) ∧ ((¬ (15 ≤ a1)) → (cin S 22 i ∧ (cin S 23 i ∧ vp_in a1 15 ∧ (∀ S5 : CST, S5 = cs S 230 i (upd (cv S 230 i) (a1 : Int32).toNatClampNeg a2) → (Post S5)))))))
def zw_zd_X4_put_w0 : List Cond := [.fieldLink RX4 9 "TemplateForge$Frame" "registers" "[I"]
def zw_zd_X4_put : List Cond := .code yX4_put cX4_put 3 none :: ((zw_zd_X4_put_w0) ++ wsX40)
set_option maxHeartbeats 16000000 in
set_option maxRecDepth 100000 in
theorem zd_X4_put (l : Launch) (D : va_G) (cI cZ cP cF : Nat) (q : Nat → Nat → Nat) (S : CST) (i : Nat) (a1 : Int32) (a2 : Int32) (sz : Nat) (Post : CST → Prop) (h : wp_X4_put S i a1 a2 Post) : Met l yX4_put zw_zd_X4_put ({ frames := 0, cells := 0, slots := 0, locals := 0 }) (va_Pc [.ref (q 22 i), .int a1, .int a2] (fun U => U.heap.size = sz ∧ va_P D vwCl (cW cI cZ cP cF q S) U.heap ∧ zE D cI cZ cP cF U ∧ va_D (fun _ => True) (cW cI cZ cP cF q S))) (va_Qv (fun S' => Post S') (fun (S' : CST) t => va_P D vwCl (cW cI cZ cP cF q S') t.heap ∧ va_D (va_A (cW cI cZ cP cF q S) sz) (cW cI cZ cP cF q S')) (va_A (cW cI cZ cP cF q S) sz)) 0 0 (va_A (cW cI cZ cP cF q S) sz) := by
  unfold wp_X4_put at h
  refine Met.ofW (cc := cX4_put) (maxL := 3) (ret := none) (by decide) rfl ?_
  intro p e s m args below meth c s₁ B hml hv
  obtain ⟨rfl, hsz, hP, hE, hD0⟩ := hv
  have hx := B.exec
  have hb := B.bytes
  have hr := B.returns
  have hts := atoms_spec (ws := zw_zd_X4_put) B.pre
  have hown : s.vm.findClass RX4 = some m.cls := findClass_of_methodNamed B.named
  have hlocks := B.notSynchronized
  have hK := hE.k
  subst hsz
  have hD := hD0.self (sz := s.heap.size)
  generalize hAe : va_A (cW cI cZ cP cF q S) s.heap.size = A at hD ⊢
  have hA : ∀ q : Nat, s.heap.size ≤ q → A q := fun q h => by rw [← hAe]; exact Or.inr h
  have hl := lv_entry ([.ref (q 22 i), .int a1, .int a2]) (n := 3) (Nat.le_of_ble_eq_true rfl)
  rw [lg_entry_eq]
  generalize (lg_sl ([.ref (q 22 i), .int a1, .int a2]) ++ List.replicate (3 - (lg_sl ([.ref (q 22 i), .int a1, .int a2])).length) Slot.unset).toArray = ls at hl ⊢
  have hl : lv_has ls 3 [(0, .ref (q 22 i)), (1, .int a1), (2, .int a2)] := hl
  have key : ∀ (H : Heap) (locs : List Loc), va_P D vwCl (cW cI cZ cP cF q S) H → va_S A s.heap H locs → W p l e (headSpec zw_zd_X4_put ({ frames := 0, cells := 0, slots := 0, locals := 0 })).room s m ([.ref (q 22 i), .int a1, .int a2] : List Value).toArray below meth c H locs 0 0 (MQ below (va_Qv (fun S' => Post S') (fun (S' : CST) t => va_P D vwCl (cW cI cZ cP cF q S') t.heap ∧ va_D A (cW cI cZ cP cF q S')) A) ([.ref (q 22 i), .int a1, .int a2] : List Value).toArray s 0 0 A) (F0 m 0 ls []) := by
    intro H locs hP hS
    refine lv_iload_n hx hb dX4_put_0 rfl (lv_at hl 1 rfl) ?_
    refine lv_if_lt (tgt := 17) hx hb dX4_put_1 (by decide) (fun c_1 => ?_) (fun c_1 => ?_)
    · have h := h.1 c_1
      exact W.vret hx hb hr (fun t ht hW => ⟨⟨S, rfl, h, by rw [ht]; exact hP, hD⟩, hS.F ht⟩) hS.2.2 dX4_put_17
    · have h := h.2 c_1
      refine lv_iload_n hx hb dX4_put_4 rfl (lv_at hl 1 rfl) ?_
      refine lv_bipush (v := 15) hx hb dX4_put_5 (by decide) ?_
      refine lv_icmp_ge (tgt := 17) hx hb dX4_put_7 (by decide) (fun c_2 => ?_) (fun c_2 => ?_)
      · have h := h.1 c_2
        exact W.vret hx hb hr (fun t ht hW => ⟨⟨S, rfl, h, by rw [ht]; exact hP, hD⟩, hS.F ht⟩) hS.2.2 dX4_put_17
      · have h := h.2 c_2
        refine lv_aload_n hx hb dX4_put_10 rfl (lv_at hl 0 rfl) ?_
        have hi_3 := h.1
        have h := h.2
        obtain ⟨p_3, hp_3⟩ := cget_22 cI cZ cP cF q S hi_3
        refine va_get (D := D) (ci := 4) (v := .ref (q 23 i)) (C := RX4) (T := TX4) (N := 5) hx hb hts (fun _ h => List.mem_cons_of_mem _ (List.mem_append_right _ h)) hown hK hP p_3 hp_3 rfl 4 (by decide) (hts (.fieldLink RX4 9 "TemplateForge$Frame" "registers" "[I") (List.mem_of_getElem? (i := 1) rfl)) (fun _ h9 => h9) rfl dX4_put_11 ?_
        refine lv_iload_n hx hb dX4_put_14 rfl (lv_at hl 1 rfl) ?_
        refine lv_iload_n hx hb dX4_put_15 rfl (lv_at hl 2 rfl) ?_
        have hi_4 := h.1
        have h := h.2
        obtain ⟨p_4, hp_4⟩ := cget_23 cI cZ cP cF q S hi_4
        have hin_4 := h.1
        have h := h.2
        have hD0_4 := hD
        refine va_iast hx hb hK hP hD hS p_4 0 hp_4 rfl hin_4 dX4_put_16 (fun H locs hP hD hS => ?_)
        obtain ⟨S5, eS5⟩ : ∃ z, z = cs S 230 i (upd (cv S 230 i) (a1 : Int32).toNatClampNeg a2) := ⟨_, rfl⟩
        have hP : va_P D vwCl (cW cI cZ cP cF q S5) H := by rw [eS5, ← cW_put (k := 230) (κ := 23) (i := i) (g := (upd (cv S 230 i) (a1 : Int32).toNatClampNeg a2)) rfl hD0_4 hp_4 hi_4, cput_230]; exact hP
        have hD : va_D A (cW cI cZ cP cF q S5) := by rw [eS5, ← cW_put (k := 230) (κ := 23) (i := i) (g := (upd (cv S 230 i) (a1 : Int32).toNatClampNeg a2)) rfl hD0_4 hp_4 hi_4, cput_230]; exact hD
        have h := h S5 eS5
        exact W.vret hx hb hr (fun t ht hW => ⟨⟨S5, rfl, h, by rw [ht]; exact hP, hD⟩, hS.F ht⟩) hS.2.2 dX4_put_17
  exact key _ _ hP va_S.rf

def wp_X2_valueOf (S : CST) (a1 : Int32) (Post : Int32 → Prop) : Prop :=
  (((a1 : Int32) < 0) → (Post 0)) ∧ ((¬ ((a1 : Int32) < 0)) → (((8 ≤ a1) → (Post 0)) ∧ ((¬ (8 ≤ a1)) → (vp_in a1 8 ∧ (Post (cv S 40 0 (a1 : Int32).toNatClampNeg))))))
def zw_zd_X2_valueOf_w0 : List Cond := [.fieldLink RX2 9 "TemplateForge$Data" "fields" "[I"]
def zw_zd_X2_valueOf : List Cond := .code yX2_valueOf cX2_valueOf 2 (some .int) :: ((zw_zd_X2_valueOf_w0) ++ wsX20)
set_option maxHeartbeats 16000000 in
set_option maxRecDepth 100000 in
theorem zd_X2_valueOf (l : Launch) (D : va_G) (cI cZ cP cF : Nat) (q : Nat → Nat → Nat) (S : CST) (a1 : Int32) (Post : Int32 → Prop) (h : wp_X2_valueOf S a1 Post) : Met l yX2_valueOf zw_zd_X2_valueOf ({ frames := 0, cells := 0, slots := 0, locals := 0 }) (va_Pc [.ref (q 3 0), .int a1] (fun U => va_P D vwCl (cW cI cZ cP cF q S) U.heap ∧ zE D cI cZ cP cF U)) (vp_Si Post) 0 0 (fun _ => False) := by
  unfold wp_X2_valueOf at h
  refine Met.ofW (cc := cX2_valueOf) (maxL := 2) (ret := (some .int)) (by decide) rfl ?_
  intro p e s m args below meth c s₁ B hml hv
  obtain ⟨rfl, hP, hE⟩ := hv
  have hx := B.exec
  have hb := B.bytes
  have hr := B.returns
  have hts := atoms_spec (ws := zw_zd_X2_valueOf) B.pre
  have hown : s.vm.findClass RX2 = some m.cls := findClass_of_methodNamed B.named
  have hlocks := B.notSynchronized
  have hK := hE.k
  have hl := lv_entry ([.ref (q 3 0), .int a1]) (n := 2) (Nat.le_of_ble_eq_true rfl)
  rw [lg_entry_eq]
  generalize (lg_sl ([.ref (q 3 0), .int a1]) ++ List.replicate (2 - (lg_sl ([.ref (q 3 0), .int a1])).length) Slot.unset).toArray = ls at hl ⊢
  have hl : lv_has ls 2 [(0, .ref (q 3 0)), (1, .int a1)] := hl
  refine lv_iload_n hx hb dX2_valueOf_0 rfl (lv_at hl 1 rfl) ?_
  refine lv_if_lt (tgt := 19) hx hb dX2_valueOf_1 (by decide) (fun c_1 => ?_) (fun c_1 => ?_)
  · have h := h.1 c_1
    refine lv_iconst (v := 0) hx hb dX2_valueOf_19 (by decide) ?_
    exact W.iret (v := 0) hx hb hr (fun t ht hW => ⟨_, rfl, h, ht⟩) (fun q h => by cases h) dX2_valueOf_20
  · have h := h.2 c_1
    refine lv_iload_n hx hb dX2_valueOf_4 rfl (lv_at hl 1 rfl) ?_
    refine lv_bipush (v := 8) hx hb dX2_valueOf_5 (by decide) ?_
    refine lv_icmp_ge (tgt := 19) hx hb dX2_valueOf_7 (by decide) (fun c_2 => ?_) (fun c_2 => ?_)
    · have h := h.1 c_2
      refine lv_iconst (v := 0) hx hb dX2_valueOf_19 (by decide) ?_
      exact W.iret (v := 0) hx hb hr (fun t ht hW => ⟨_, rfl, h, ht⟩) (fun q h => by cases h) dX2_valueOf_20
    · have h := h.2 c_2
      refine lv_aload_n hx hb dX2_valueOf_10 rfl (lv_at hl 0 rfl) ?_
      obtain ⟨p_3, hp_3⟩ := cget_3 cI cZ cP cF q S
      have hi_3 : cin S 3 0 := Or.inl ⟨by decide, rfl⟩
      refine va_get (D := D) (ci := 2) (v := .ref (q 4 0)) (C := RX2) (T := TX2) (N := 3) hx hb hts (fun _ h => List.mem_cons_of_mem _ (List.mem_append_right _ h)) hown hK hP p_3 hp_3 rfl 0 (by decide) (hts (.fieldLink RX2 9 "TemplateForge$Data" "fields" "[I") (List.mem_of_getElem? (i := 1) rfl)) (fun _ h9 => h9) rfl dX2_valueOf_11 ?_
      refine lv_iload_n hx hb dX2_valueOf_14 rfl (lv_at hl 1 rfl) ?_
      obtain ⟨p_4, hp_4⟩ := cget_4 cI cZ cP cF q S
      have hi_4 : cin S 4 0 := Or.inl ⟨by decide, rfl⟩
      have hin_4 := h.1
      have h := h.2
      refine va_iald hx hb hK hP p_4 0 hp_4 rfl hin_4 dX2_valueOf_15 ?_
      refine lv_goto (tgt := 20) hx hb dX2_valueOf_16 (by decide) ?_
      exact W.iret (v := cv S 40 0 (a1 : Int32).toNatClampNeg) hx hb hr (fun t ht hW => ⟨_, rfl, h, ht⟩) (fun q h => by cases h) dX2_valueOf_20

def wp_X2_lengthOf (S : CST) (a1 : Int32) (Post : Int32 → Prop) : Prop :=
  (((a1 : Int32) < 0) → (Post (-1))) ∧ ((¬ ((a1 : Int32) < 0)) → (((4 ≤ a1) → (Post (-1))) ∧ ((¬ (4 ≤ a1)) → (vp_in a1 4 ∧ (Post (cv S 50 0 (a1 : Int32).toNatClampNeg))))))
def zw_zd_X2_lengthOf_w0 : List Cond := [.fieldLink RX2 15 "TemplateForge$Data" "lengths" "[I"]
def zw_zd_X2_lengthOf : List Cond := .code yX2_lengthOf cX2_lengthOf 2 (some .int) :: ((zw_zd_X2_lengthOf_w0) ++ wsX20)
set_option maxHeartbeats 16000000 in
set_option maxRecDepth 100000 in
theorem zd_X2_lengthOf (l : Launch) (D : va_G) (cI cZ cP cF : Nat) (q : Nat → Nat → Nat) (S : CST) (a1 : Int32) (Post : Int32 → Prop) (h : wp_X2_lengthOf S a1 Post) : Met l yX2_lengthOf zw_zd_X2_lengthOf ({ frames := 0, cells := 0, slots := 0, locals := 0 }) (va_Pc [.ref (q 3 0), .int a1] (fun U => va_P D vwCl (cW cI cZ cP cF q S) U.heap ∧ zE D cI cZ cP cF U)) (vp_Si Post) 0 0 (fun _ => False) := by
  unfold wp_X2_lengthOf at h
  refine Met.ofW (cc := cX2_lengthOf) (maxL := 2) (ret := (some .int)) (by decide) rfl ?_
  intro p e s m args below meth c s₁ B hml hv
  obtain ⟨rfl, hP, hE⟩ := hv
  have hx := B.exec
  have hb := B.bytes
  have hr := B.returns
  have hts := atoms_spec (ws := zw_zd_X2_lengthOf) B.pre
  have hown : s.vm.findClass RX2 = some m.cls := findClass_of_methodNamed B.named
  have hlocks := B.notSynchronized
  have hK := hE.k
  have hl := lv_entry ([.ref (q 3 0), .int a1]) (n := 2) (Nat.le_of_ble_eq_true rfl)
  rw [lg_entry_eq]
  generalize (lg_sl ([.ref (q 3 0), .int a1]) ++ List.replicate (2 - (lg_sl ([.ref (q 3 0), .int a1])).length) Slot.unset).toArray = ls at hl ⊢
  have hl : lv_has ls 2 [(0, .ref (q 3 0)), (1, .int a1)] := hl
  refine lv_iload_n hx hb dX2_lengthOf_0 rfl (lv_at hl 1 rfl) ?_
  refine lv_if_lt (tgt := 18) hx hb dX2_lengthOf_1 (by decide) (fun c_1 => ?_) (fun c_1 => ?_)
  · have h := h.1 c_1
    refine lv_iconst (v := (-1)) hx hb dX2_lengthOf_18 (by decide) ?_
    exact W.iret (v := (-1)) hx hb hr (fun t ht hW => ⟨_, rfl, h, ht⟩) (fun q h => by cases h) dX2_lengthOf_19
  · have h := h.2 c_1
    refine lv_iload_n hx hb dX2_lengthOf_4 rfl (lv_at hl 1 rfl) ?_
    refine lv_iconst (v := 4) hx hb dX2_lengthOf_5 (by decide) ?_
    refine lv_icmp_ge (tgt := 18) hx hb dX2_lengthOf_6 (by decide) (fun c_2 => ?_) (fun c_2 => ?_)
    · have h := h.1 c_2
      refine lv_iconst (v := (-1)) hx hb dX2_lengthOf_18 (by decide) ?_
      exact W.iret (v := (-1)) hx hb hr (fun t ht hW => ⟨_, rfl, h, ht⟩) (fun q h => by cases h) dX2_lengthOf_19
    · have h := h.2 c_2
      refine lv_aload_n hx hb dX2_lengthOf_9 rfl (lv_at hl 0 rfl) ?_
      obtain ⟨p_3, hp_3⟩ := cget_3 cI cZ cP cF q S
      have hi_3 : cin S 3 0 := Or.inl ⟨by decide, rfl⟩
      refine va_get (D := D) (ci := 2) (v := .ref (q 5 0)) (C := RX2) (T := TX2) (N := 3) hx hb hts (fun _ h => List.mem_cons_of_mem _ (List.mem_append_right _ h)) hown hK hP p_3 hp_3 rfl 1 (by decide) (hts (.fieldLink RX2 15 "TemplateForge$Data" "lengths" "[I") (List.mem_of_getElem? (i := 1) rfl)) (fun _ h9 => h9) rfl dX2_lengthOf_10 ?_
      refine lv_iload_n hx hb dX2_lengthOf_13 rfl (lv_at hl 1 rfl) ?_
      obtain ⟨p_4, hp_4⟩ := cget_5 cI cZ cP cF q S
      have hi_4 : cin S 5 0 := Or.inl ⟨by decide, rfl⟩
      have hin_4 := h.1
      have h := h.2
      refine va_iald hx hb hK hP p_4 0 hp_4 rfl hin_4 dX2_lengthOf_14 ?_
      refine lv_goto (tgt := 19) hx hb dX2_lengthOf_15 (by decide) ?_
      exact W.iret (v := cv S 50 0 (a1 : Int32).toNatClampNeg) hx hb hr (fun t ht hW => ⟨_, rfl, h, ht⟩) (fun q h => by cases h) dX2_lengthOf_19

def wp_X10_ofTrap (S : CST) (a1 : Int32) (Post : Int32 → Prop) : Prop :=
  (((a1 : Int32) < 0) → (Post (-2))) ∧ ((¬ ((a1 : Int32) < 0)) → (((4 ≤ a1) → (Post (-2))) ∧ ((¬ (4 ≤ a1)) → (vp_in a1 4 ∧ (Post (cv S 210 0 (a1 : Int32).toNatClampNeg))))))
def zw_zd_X10_ofTrap_w0 : List Cond := [.fieldLink RX10 9 "TemplateForge$Tally" "trap" "[I"]
def zw_zd_X10_ofTrap : List Cond := .code yX10_ofTrap cX10_ofTrap 2 (some .int) :: ((zw_zd_X10_ofTrap_w0) ++ wsX100)
set_option maxHeartbeats 16000000 in
set_option maxRecDepth 100000 in
theorem zd_X10_ofTrap (l : Launch) (D : va_G) (cI cZ cP cF : Nat) (q : Nat → Nat → Nat) (S : CST) (a1 : Int32) (Post : Int32 → Prop) (h : wp_X10_ofTrap S a1 Post) : Met l yX10_ofTrap zw_zd_X10_ofTrap ({ frames := 0, cells := 0, slots := 0, locals := 0 }) (va_Pc [.ref (q 20 0), .int a1] (fun U => va_P D vwCl (cW cI cZ cP cF q S) U.heap ∧ zE D cI cZ cP cF U)) (vp_Si Post) 0 0 (fun _ => False) := by
  unfold wp_X10_ofTrap at h
  refine Met.ofW (cc := cX10_ofTrap) (maxL := 2) (ret := (some .int)) (by decide) rfl ?_
  intro p e s m args below meth c s₁ B hml hv
  obtain ⟨rfl, hP, hE⟩ := hv
  have hx := B.exec
  have hb := B.bytes
  have hr := B.returns
  have hts := atoms_spec (ws := zw_zd_X10_ofTrap) B.pre
  have hown : s.vm.findClass RX10 = some m.cls := findClass_of_methodNamed B.named
  have hlocks := B.notSynchronized
  have hK := hE.k
  have hl := lv_entry ([.ref (q 20 0), .int a1]) (n := 2) (Nat.le_of_ble_eq_true rfl)
  rw [lg_entry_eq]
  generalize (lg_sl ([.ref (q 20 0), .int a1]) ++ List.replicate (2 - (lg_sl ([.ref (q 20 0), .int a1])).length) Slot.unset).toArray = ls at hl ⊢
  have hl : lv_has ls 2 [(0, .ref (q 20 0)), (1, .int a1)] := hl
  refine lv_iload_n hx hb dX10_ofTrap_0 rfl (lv_at hl 1 rfl) ?_
  refine lv_if_lt (tgt := 18) hx hb dX10_ofTrap_1 (by decide) (fun c_1 => ?_) (fun c_1 => ?_)
  · have h := h.1 c_1
    refine lv_bipush (v := (-2)) hx hb dX10_ofTrap_18 (by decide) ?_
    exact W.iret (v := (-2)) hx hb hr (fun t ht hW => ⟨_, rfl, h, ht⟩) (fun q h => by cases h) dX10_ofTrap_20
  · have h := h.2 c_1
    refine lv_iload_n hx hb dX10_ofTrap_4 rfl (lv_at hl 1 rfl) ?_
    refine lv_iconst (v := 4) hx hb dX10_ofTrap_5 (by decide) ?_
    refine lv_icmp_ge (tgt := 18) hx hb dX10_ofTrap_6 (by decide) (fun c_2 => ?_) (fun c_2 => ?_)
    · have h := h.1 c_2
      refine lv_bipush (v := (-2)) hx hb dX10_ofTrap_18 (by decide) ?_
      exact W.iret (v := (-2)) hx hb hr (fun t ht hW => ⟨_, rfl, h, ht⟩) (fun q h => by cases h) dX10_ofTrap_20
    · have h := h.2 c_2
      refine lv_aload_n hx hb dX10_ofTrap_9 rfl (lv_at hl 0 rfl) ?_
      obtain ⟨p_3, hp_3⟩ := cget_20 cI cZ cP cF q S
      have hi_3 : cin S 20 0 := Or.inl ⟨by decide, rfl⟩
      refine va_get (D := D) (ci := 10) (v := .ref (q 21 0)) (C := RX10) (T := TX10) (N := 7) hx hb hts (fun _ h => List.mem_cons_of_mem _ (List.mem_append_right _ h)) hown hK hP p_3 hp_3 rfl 6 (by decide) (hts (.fieldLink RX10 9 "TemplateForge$Tally" "trap" "[I") (List.mem_of_getElem? (i := 1) rfl)) (fun _ h9 => h9) rfl dX10_ofTrap_10 ?_
      refine lv_iload_n hx hb dX10_ofTrap_13 rfl (lv_at hl 1 rfl) ?_
      obtain ⟨p_4, hp_4⟩ := cget_21 cI cZ cP cF q S
      have hi_4 : cin S 21 0 := Or.inl ⟨by decide, rfl⟩
      have hin_4 := h.1
      have h := h.2
      refine va_iald hx hb hK hP p_4 0 hp_4 rfl hin_4 dX10_ofTrap_14 ?_
      refine lv_goto (tgt := 20) hx hb dX10_ofTrap_15 (by decide) ?_
      exact W.iret (v := cv S 210 0 (a1 : Int32).toNatClampNeg) hx hb hr (fun t ht hW => ⟨_, rfl, h, ht⟩) (fun q h => by cases h) dX10_ofTrap_20

def wp_X8_has (S : CST) (i : Nat) (a1 : Int32) (Post : Int32 → Prop) : Prop :=
  (((a1 : Int32) < 0) → (Post 0)) ∧ ((¬ ((a1 : Int32) < 0)) → (cin S 24 i ∧ ((((cv S 247 i 0) ≤ a1) → (Post 0)) ∧ ((¬ ((cv S 247 i 0) ≤ a1)) → (((60 ≤ a1) → (Post 0)) ∧ ((¬ (60 ≤ a1)) → (Post 1)))))))
def zw_zd_X8_has_w0 : List Cond := [.fieldLink RX8 41 "TemplateForge$Program" "length" "I"]
def zw_zd_X8_has : List Cond := .code yX8_has cX8_has 2 (some .boolean) :: ((zw_zd_X8_has_w0) ++ wsX80)
set_option maxHeartbeats 16000000 in
set_option maxRecDepth 100000 in
theorem zd_X8_has (l : Launch) (D : va_G) (cI cZ cP cF : Nat) (q : Nat → Nat → Nat) (S : CST) (i : Nat) (a1 : Int32) (Post : Int32 → Prop) (h : wp_X8_has S i a1 Post) : Met l yX8_has zw_zd_X8_has ({ frames := 0, cells := 0, slots := 0, locals := 0 }) (va_Pc [.ref (q 24 i), .int a1] (fun U => va_P D vwCl (cW cI cZ cP cF q S) U.heap ∧ zE D cI cZ cP cF U)) (vp_Si Post) 0 0 (fun _ => False) := by
  unfold wp_X8_has at h
  refine Met.ofW (cc := cX8_has) (maxL := 2) (ret := (some .boolean)) (by decide) rfl ?_
  intro p e s m args below meth c s₁ B hml hv
  obtain ⟨rfl, hP, hE⟩ := hv
  have hx := B.exec
  have hb := B.bytes
  have hr := B.returns
  have hts := atoms_spec (ws := zw_zd_X8_has) B.pre
  have hown : s.vm.findClass RX8 = some m.cls := findClass_of_methodNamed B.named
  have hlocks := B.notSynchronized
  have hK := hE.k
  have hl := lv_entry ([.ref (q 24 i), .int a1]) (n := 2) (Nat.le_of_ble_eq_true rfl)
  rw [lg_entry_eq]
  generalize (lg_sl ([.ref (q 24 i), .int a1]) ++ List.replicate (2 - (lg_sl ([.ref (q 24 i), .int a1])).length) Slot.unset).toArray = ls at hl ⊢
  have hl : lv_has ls 2 [(0, .ref (q 24 i)), (1, .int a1)] := hl
  refine lv_iload_n hx hb dX8_has_0 rfl (lv_at hl 1 rfl) ?_
  refine lv_if_lt (tgt := 22) hx hb dX8_has_1 (by decide) (fun c_1 => ?_) (fun c_1 => ?_)
  · have h := h.1 c_1
    refine lv_iconst (v := 0) hx hb dX8_has_22 (by decide) ?_
    exact W.zret (v := 0) (ty := .boolean) hx hb hr (by decide) (fun t ht hW => ⟨_, rfl, h, ht⟩) (fun q h => by cases h) dX8_has_23
  · have h := h.2 c_1
    refine lv_iload_n hx hb dX8_has_4 rfl (lv_at hl 1 rfl) ?_
    refine lv_aload_n hx hb dX8_has_5 rfl (lv_at hl 0 rfl) ?_
    have hi_2 := h.1
    have h := h.2
    obtain ⟨p_2, hp_2⟩ := cget_24 cI cZ cP cF q S hi_2
    refine va_get (D := D) (ci := 8) (v := .int (cv S 247 i 0)) (C := RX8) (T := TX8) (N := 10) hx hb hts (fun _ h => List.mem_cons_of_mem _ (List.mem_append_right _ h)) hown hK hP p_2 hp_2 rfl 7 (by decide) (hts (.fieldLink RX8 41 "TemplateForge$Program" "length" "I") (List.mem_of_getElem? (i := 1) rfl)) (fun _ h9 => h9) rfl dX8_has_6 ?_
    refine lv_icmp_ge (tgt := 22) hx hb dX8_has_9 (by decide) (fun c_3 => ?_) (fun c_3 => ?_)
    · have h := h.1 c_3
      refine lv_iconst (v := 0) hx hb dX8_has_22 (by decide) ?_
      exact W.zret (v := 0) (ty := .boolean) hx hb hr (by decide) (fun t ht hW => ⟨_, rfl, h, ht⟩) (fun q h => by cases h) dX8_has_23
    · have h := h.2 c_3
      refine lv_iload_n hx hb dX8_has_12 rfl (lv_at hl 1 rfl) ?_
      refine lv_bipush (v := 60) hx hb dX8_has_13 (by decide) ?_
      refine lv_icmp_ge (tgt := 22) hx hb dX8_has_15 (by decide) (fun c_4 => ?_) (fun c_4 => ?_)
      · have h := h.1 c_4
        refine lv_iconst (v := 0) hx hb dX8_has_22 (by decide) ?_
        exact W.zret (v := 0) (ty := .boolean) hx hb hr (by decide) (fun t ht hW => ⟨_, rfl, h, ht⟩) (fun q h => by cases h) dX8_has_23
      · have h := h.2 c_4
        refine lv_iconst (v := 1) hx hb dX8_has_18 (by decide) ?_
        refine lv_goto (tgt := 23) hx hb dX8_has_19 (by decide) ?_
        exact W.zret (v := 1) (ty := .boolean) hx hb hr (by decide) (fun t ht hW => ⟨_, rfl, h, ht⟩) (fun q h => by cases h) dX8_has_23

def wp_X3_parts (S : CST) (Post : Int32 → Prop) : Prop :=
  Post (cv S 72 0 0)
def zw_zd_X3_parts_w0 : List Cond := [.fieldLink RX3 18 "TemplateForge$Draft" "parts" "I"]
def zw_zd_X3_parts : List Cond := .code yX3_parts cX3_parts 1 (some .int) :: ((zw_zd_X3_parts_w0) ++ wsX30)
set_option maxHeartbeats 16000000 in
set_option maxRecDepth 100000 in
theorem zd_X3_parts (l : Launch) (D : va_G) (cI cZ cP cF : Nat) (q : Nat → Nat → Nat) (S : CST) (Post : Int32 → Prop) (h : wp_X3_parts S Post) : Met l yX3_parts zw_zd_X3_parts ({ frames := 0, cells := 0, slots := 0, locals := 0 }) (va_Pc [.ref (q 7 0)] (fun U => va_P D vwCl (cW cI cZ cP cF q S) U.heap ∧ zE D cI cZ cP cF U)) (vp_Si Post) 0 0 (fun _ => False) := by
  unfold wp_X3_parts at h
  refine Met.ofW (cc := cX3_parts) (maxL := 1) (ret := (some .int)) (by decide) rfl ?_
  intro p e s m args below meth c s₁ B hml hv
  obtain ⟨rfl, hP, hE⟩ := hv
  have hx := B.exec
  have hb := B.bytes
  have hr := B.returns
  have hts := atoms_spec (ws := zw_zd_X3_parts) B.pre
  have hown : s.vm.findClass RX3 = some m.cls := findClass_of_methodNamed B.named
  have hlocks := B.notSynchronized
  have hK := hE.k
  have hl := lv_entry ([.ref (q 7 0)]) (n := 1) (Nat.le_of_ble_eq_true rfl)
  rw [lg_entry_eq]
  generalize (lg_sl ([.ref (q 7 0)]) ++ List.replicate (1 - (lg_sl ([.ref (q 7 0)])).length) Slot.unset).toArray = ls at hl ⊢
  have hl : lv_has ls 1 [(0, .ref (q 7 0))] := hl
  refine lv_aload_n hx hb dX3_parts_0 rfl (lv_at hl 0 rfl) ?_
  obtain ⟨p_1, hp_1⟩ := cget_7 cI cZ cP cF q S
  have hi_1 : cin S 7 0 := Or.inl ⟨by decide, rfl⟩
  refine va_get (D := D) (ci := 3) (v := .int (cv S 72 0 0)) (C := RX3) (T := TX3) (N := 3) hx hb hts (fun _ h => List.mem_cons_of_mem _ (List.mem_append_right _ h)) hown hK hP p_1 hp_1 rfl 2 (by decide) (hts (.fieldLink RX3 18 "TemplateForge$Draft" "parts" "I") (List.mem_of_getElem? (i := 1) rfl)) (fun _ h9 => h9) rfl dX3_parts_1 ?_
  exact W.iret (v := cv S 72 0 0) hx hb hr (fun t ht hW => ⟨_, rfl, h, ht⟩) (fun q h => by cases h) dX3_parts_4

def wp_X5_valueOf (S : CST) (i : Nat) (a1 : Int32) (Post : Int32 → Prop) : Prop :=
  (((a1 : Int32) < 0) → (Post 0)) ∧ ((¬ ((a1 : Int32) < 0)) → (((11 ≤ a1) → (Post 0)) ∧ ((¬ (11 ≤ a1)) → (cin S 28 i ∧ (cin S 29 i ∧ vp_in a1 11 ∧ (Post (cv S 290 i (a1 : Int32).toNatClampNeg)))))))
def zw_zd_X5_valueOf_w0 : List Cond := [.fieldLink RX5 9 "TemplateForge$Heat" "first" "[I"]
def zw_zd_X5_valueOf : List Cond := .code yX5_valueOf cX5_valueOf 2 (some .int) :: ((zw_zd_X5_valueOf_w0) ++ wsX50)
set_option maxHeartbeats 16000000 in
set_option maxRecDepth 100000 in
theorem zd_X5_valueOf (l : Launch) (D : va_G) (cI cZ cP cF : Nat) (q : Nat → Nat → Nat) (S : CST) (i : Nat) (a1 : Int32) (Post : Int32 → Prop) (h : wp_X5_valueOf S i a1 Post) : Met l yX5_valueOf zw_zd_X5_valueOf ({ frames := 0, cells := 0, slots := 0, locals := 0 }) (va_Pc [.ref (q 28 i), .int a1] (fun U => va_P D vwCl (cW cI cZ cP cF q S) U.heap ∧ zE D cI cZ cP cF U)) (vp_Si Post) 0 0 (fun _ => False) := by
  unfold wp_X5_valueOf at h
  refine Met.ofW (cc := cX5_valueOf) (maxL := 2) (ret := (some .int)) (by decide) rfl ?_
  intro p e s m args below meth c s₁ B hml hv
  obtain ⟨rfl, hP, hE⟩ := hv
  have hx := B.exec
  have hb := B.bytes
  have hr := B.returns
  have hts := atoms_spec (ws := zw_zd_X5_valueOf) B.pre
  have hown : s.vm.findClass RX5 = some m.cls := findClass_of_methodNamed B.named
  have hlocks := B.notSynchronized
  have hK := hE.k
  have hl := lv_entry ([.ref (q 28 i), .int a1]) (n := 2) (Nat.le_of_ble_eq_true rfl)
  rw [lg_entry_eq]
  generalize (lg_sl ([.ref (q 28 i), .int a1]) ++ List.replicate (2 - (lg_sl ([.ref (q 28 i), .int a1])).length) Slot.unset).toArray = ls at hl ⊢
  have hl : lv_has ls 2 [(0, .ref (q 28 i)), (1, .int a1)] := hl
  refine lv_iload_n hx hb dX5_valueOf_0 rfl (lv_at hl 1 rfl) ?_
  refine lv_if_lt (tgt := 19) hx hb dX5_valueOf_1 (by decide) (fun c_1 => ?_) (fun c_1 => ?_)
  · have h := h.1 c_1
    refine lv_iconst (v := 0) hx hb dX5_valueOf_19 (by decide) ?_
    exact W.iret (v := 0) hx hb hr (fun t ht hW => ⟨_, rfl, h, ht⟩) (fun q h => by cases h) dX5_valueOf_20
  · have h := h.2 c_1
    refine lv_iload_n hx hb dX5_valueOf_4 rfl (lv_at hl 1 rfl) ?_
    refine lv_bipush (v := 11) hx hb dX5_valueOf_5 (by decide) ?_
    refine lv_icmp_ge (tgt := 19) hx hb dX5_valueOf_7 (by decide) (fun c_2 => ?_) (fun c_2 => ?_)
    · have h := h.1 c_2
      refine lv_iconst (v := 0) hx hb dX5_valueOf_19 (by decide) ?_
      exact W.iret (v := 0) hx hb hr (fun t ht hW => ⟨_, rfl, h, ht⟩) (fun q h => by cases h) dX5_valueOf_20
    · have h := h.2 c_2
      refine lv_aload_n hx hb dX5_valueOf_10 rfl (lv_at hl 0 rfl) ?_
      have hi_3 := h.1
      have h := h.2
      obtain ⟨p_3, hp_3⟩ := cget_28 cI cZ cP cF q S hi_3
      refine va_get (D := D) (ci := 5) (v := .ref (q 29 i)) (C := RX5) (T := TX5) (N := 9) hx hb hts (fun _ h => List.mem_cons_of_mem _ (List.mem_append_right _ h)) hown hK hP p_3 hp_3 rfl 6 (by decide) (hts (.fieldLink RX5 9 "TemplateForge$Heat" "first" "[I") (List.mem_of_getElem? (i := 1) rfl)) (fun _ h9 => h9) rfl dX5_valueOf_11 ?_
      refine lv_iload_n hx hb dX5_valueOf_14 rfl (lv_at hl 1 rfl) ?_
      have hi_4 := h.1
      have h := h.2
      obtain ⟨p_4, hp_4⟩ := cget_29 cI cZ cP cF q S hi_4
      have hin_4 := h.1
      have h := h.2
      refine va_iald hx hb hK hP p_4 0 hp_4 rfl hin_4 dX5_valueOf_15 ?_
      refine lv_goto (tgt := 20) hx hb dX5_valueOf_16 (by decide) ?_
      exact W.iret (v := cv S 290 i (a1 : Int32).toNatClampNeg) hx hb hr (fun t ht hW => ⟨_, rfl, h, ht⟩) (fun q h => by cases h) dX5_valueOf_20

def wp_X9_isKnown (S : CST) (a1 : Int32) (Post : Int32 → Prop) : Prop :=
  (((a1 : Int32) < 0) → (Post 0)) ∧ ((¬ ((a1 : Int32) < 0)) → (((15 ≤ a1) → (Post 0)) ∧ ((¬ (15 ≤ a1)) → (vp_in a1 15 ∧ (((((cv S 160 0 (a1 : Int32).toNatClampNeg) : Int32) = 0) → (Post 0)) ∧ ((¬ (((cv S 160 0 (a1 : Int32).toNatClampNeg) : Int32) = 0)) → (Post 1)))))))
def zw_zd_X9_isKnown_w0 : List Cond := [.fieldLink RX9 9 "TemplateForge$Smith" "known" "[Z"]
def zw_zd_X9_isKnown : List Cond := .code yX9_isKnown cX9_isKnown 2 (some .boolean) :: ((zw_zd_X9_isKnown_w0) ++ wsX90)
set_option maxHeartbeats 16000000 in
set_option maxRecDepth 100000 in
theorem zd_X9_isKnown (l : Launch) (D : va_G) (cI cZ cP cF : Nat) (q : Nat → Nat → Nat) (S : CST) (a1 : Int32) (Post : Int32 → Prop) (h : wp_X9_isKnown S a1 Post) : Met l yX9_isKnown zw_zd_X9_isKnown ({ frames := 0, cells := 0, slots := 0, locals := 0 }) (va_Pc [.ref (q 15 0), .int a1] (fun U => va_P D vwCl (cW cI cZ cP cF q S) U.heap ∧ zE D cI cZ cP cF U)) (vp_Si Post) 0 0 (fun _ => False) := by
  unfold wp_X9_isKnown at h
  refine Met.ofW (cc := cX9_isKnown) (maxL := 2) (ret := (some .boolean)) (by decide) rfl ?_
  intro p e s m args below meth c s₁ B hml hv
  obtain ⟨rfl, hP, hE⟩ := hv
  have hx := B.exec
  have hb := B.bytes
  have hr := B.returns
  have hts := atoms_spec (ws := zw_zd_X9_isKnown) B.pre
  have hown : s.vm.findClass RX9 = some m.cls := findClass_of_methodNamed B.named
  have hlocks := B.notSynchronized
  have hK := hE.k
  have hl := lv_entry ([.ref (q 15 0), .int a1]) (n := 2) (Nat.le_of_ble_eq_true rfl)
  rw [lg_entry_eq]
  generalize (lg_sl ([.ref (q 15 0), .int a1]) ++ List.replicate (2 - (lg_sl ([.ref (q 15 0), .int a1])).length) Slot.unset).toArray = ls at hl ⊢
  have hl : lv_has ls 2 [(0, .ref (q 15 0)), (1, .int a1)] := hl
  refine lv_iload_n hx hb dX9_isKnown_0 rfl (lv_at hl 1 rfl) ?_
  refine lv_if_lt (tgt := 23) hx hb dX9_isKnown_1 (by decide) (fun c_1 => ?_) (fun c_1 => ?_)
  · have h := h.1 c_1
    refine lv_iconst (v := 0) hx hb dX9_isKnown_23 (by decide) ?_
    exact W.zret (v := 0) (ty := .boolean) hx hb hr (by decide) (fun t ht hW => ⟨_, rfl, h, ht⟩) (fun q h => by cases h) dX9_isKnown_24
  · have h := h.2 c_1
    refine lv_iload_n hx hb dX9_isKnown_4 rfl (lv_at hl 1 rfl) ?_
    refine lv_bipush (v := 15) hx hb dX9_isKnown_5 (by decide) ?_
    refine lv_icmp_ge (tgt := 23) hx hb dX9_isKnown_7 (by decide) (fun c_2 => ?_) (fun c_2 => ?_)
    · have h := h.1 c_2
      refine lv_iconst (v := 0) hx hb dX9_isKnown_23 (by decide) ?_
      exact W.zret (v := 0) (ty := .boolean) hx hb hr (by decide) (fun t ht hW => ⟨_, rfl, h, ht⟩) (fun q h => by cases h) dX9_isKnown_24
    · have h := h.2 c_2
      refine lv_aload_n hx hb dX9_isKnown_10 rfl (lv_at hl 0 rfl) ?_
      obtain ⟨p_3, hp_3⟩ := cget_15 cI cZ cP cF q S
      have hi_3 : cin S 15 0 := Or.inl ⟨by decide, rfl⟩
      refine va_get (D := D) (ci := 9) (v := .ref (q 16 0)) (C := RX9) (T := TX9) (N := 5) hx hb hts (fun _ h => List.mem_cons_of_mem _ (List.mem_append_right _ h)) hown hK hP p_3 hp_3 rfl 1 (by decide) (hts (.fieldLink RX9 9 "TemplateForge$Smith" "known" "[Z") (List.mem_of_getElem? (i := 1) rfl)) (fun _ h9 => h9) rfl dX9_isKnown_11 ?_
      refine lv_iload_n hx hb dX9_isKnown_14 rfl (lv_at hl 1 rfl) ?_
      obtain ⟨p_4, hp_4⟩ := cget_16 cI cZ cP cF q S
      have hi_4 : cin S 16 0 := Or.inl ⟨by decide, rfl⟩
      have hin_4 := h.1
      have h := h.2
      refine va_zald hx hb hK hP p_4 1 hp_4 rfl hin_4 dX9_isKnown_15 ?_
      refine lv_if_eq (tgt := 23) hx hb dX9_isKnown_16 (by decide) (fun c_5 => ?_) (fun c_5 => ?_)
      · have h := h.1 c_5
        refine lv_iconst (v := 0) hx hb dX9_isKnown_23 (by decide) ?_
        exact W.zret (v := 0) (ty := .boolean) hx hb hr (by decide) (fun t ht hW => ⟨_, rfl, h, ht⟩) (fun q h => by cases h) dX9_isKnown_24
      · have h := h.2 c_5
        refine lv_iconst (v := 1) hx hb dX9_isKnown_19 (by decide) ?_
        refine lv_goto (tgt := 24) hx hb dX9_isKnown_20 (by decide) ?_
        exact W.zret (v := 1) (ty := .boolean) hx hb hr (by decide) (fun t ht hW => ⟨_, rfl, h, ht⟩) (fun q h => by cases h) dX9_isKnown_24

def wp_X9_worthOf (S : CST) (a1 : Int32) (Post : Int32 → Prop) : Prop :=
  (((a1 : Int32) < 0) → (Post 0)) ∧ ((¬ ((a1 : Int32) < 0)) → (((15 ≤ a1) → (Post 0)) ∧ ((¬ (15 ≤ a1)) → (vp_in a1 15 ∧ (Post (cv S 170 0 (a1 : Int32).toNatClampNeg))))))
def zw_zd_X9_worthOf_w0 : List Cond := [.fieldLink RX9 15 "TemplateForge$Smith" "worth" "[I"]
def zw_zd_X9_worthOf : List Cond := .code yX9_worthOf cX9_worthOf 2 (some .int) :: ((zw_zd_X9_worthOf_w0) ++ wsX90)
set_option maxHeartbeats 16000000 in
set_option maxRecDepth 100000 in
theorem zd_X9_worthOf (l : Launch) (D : va_G) (cI cZ cP cF : Nat) (q : Nat → Nat → Nat) (S : CST) (a1 : Int32) (Post : Int32 → Prop) (h : wp_X9_worthOf S a1 Post) : Met l yX9_worthOf zw_zd_X9_worthOf ({ frames := 0, cells := 0, slots := 0, locals := 0 }) (va_Pc [.ref (q 15 0), .int a1] (fun U => va_P D vwCl (cW cI cZ cP cF q S) U.heap ∧ zE D cI cZ cP cF U)) (vp_Si Post) 0 0 (fun _ => False) := by
  unfold wp_X9_worthOf at h
  refine Met.ofW (cc := cX9_worthOf) (maxL := 2) (ret := (some .int)) (by decide) rfl ?_
  intro p e s m args below meth c s₁ B hml hv
  obtain ⟨rfl, hP, hE⟩ := hv
  have hx := B.exec
  have hb := B.bytes
  have hr := B.returns
  have hts := atoms_spec (ws := zw_zd_X9_worthOf) B.pre
  have hown : s.vm.findClass RX9 = some m.cls := findClass_of_methodNamed B.named
  have hlocks := B.notSynchronized
  have hK := hE.k
  have hl := lv_entry ([.ref (q 15 0), .int a1]) (n := 2) (Nat.le_of_ble_eq_true rfl)
  rw [lg_entry_eq]
  generalize (lg_sl ([.ref (q 15 0), .int a1]) ++ List.replicate (2 - (lg_sl ([.ref (q 15 0), .int a1])).length) Slot.unset).toArray = ls at hl ⊢
  have hl : lv_has ls 2 [(0, .ref (q 15 0)), (1, .int a1)] := hl
  refine lv_iload_n hx hb dX9_worthOf_0 rfl (lv_at hl 1 rfl) ?_
  refine lv_if_lt (tgt := 19) hx hb dX9_worthOf_1 (by decide) (fun c_1 => ?_) (fun c_1 => ?_)
  · have h := h.1 c_1
    refine lv_iconst (v := 0) hx hb dX9_worthOf_19 (by decide) ?_
    exact W.iret (v := 0) hx hb hr (fun t ht hW => ⟨_, rfl, h, ht⟩) (fun q h => by cases h) dX9_worthOf_20
  · have h := h.2 c_1
    refine lv_iload_n hx hb dX9_worthOf_4 rfl (lv_at hl 1 rfl) ?_
    refine lv_bipush (v := 15) hx hb dX9_worthOf_5 (by decide) ?_
    refine lv_icmp_ge (tgt := 19) hx hb dX9_worthOf_7 (by decide) (fun c_2 => ?_) (fun c_2 => ?_)
    · have h := h.1 c_2
      refine lv_iconst (v := 0) hx hb dX9_worthOf_19 (by decide) ?_
      exact W.iret (v := 0) hx hb hr (fun t ht hW => ⟨_, rfl, h, ht⟩) (fun q h => by cases h) dX9_worthOf_20
    · have h := h.2 c_2
      refine lv_aload_n hx hb dX9_worthOf_10 rfl (lv_at hl 0 rfl) ?_
      obtain ⟨p_3, hp_3⟩ := cget_15 cI cZ cP cF q S
      have hi_3 : cin S 15 0 := Or.inl ⟨by decide, rfl⟩
      refine va_get (D := D) (ci := 9) (v := .ref (q 17 0)) (C := RX9) (T := TX9) (N := 5) hx hb hts (fun _ h => List.mem_cons_of_mem _ (List.mem_append_right _ h)) hown hK hP p_3 hp_3 rfl 2 (by decide) (hts (.fieldLink RX9 15 "TemplateForge$Smith" "worth" "[I") (List.mem_of_getElem? (i := 1) rfl)) (fun _ h9 => h9) rfl dX9_worthOf_11 ?_
      refine lv_iload_n hx hb dX9_worthOf_14 rfl (lv_at hl 1 rfl) ?_
      obtain ⟨p_4, hp_4⟩ := cget_17 cI cZ cP cF q S
      have hi_4 : cin S 17 0 := Or.inl ⟨by decide, rfl⟩
      have hin_4 := h.1
      have h := h.2
      refine va_iald hx hb hK hP p_4 0 hp_4 rfl hin_4 dX9_worthOf_15 ?_
      refine lv_goto (tgt := 20) hx hb dX9_worthOf_16 (by decide) ?_
      exact W.iret (v := cv S 170 0 (a1 : Int32).toNatClampNeg) hx hb hr (fun t ht hW => ⟨_, rfl, h, ht⟩) (fun q h => by cases h) dX9_worthOf_20

def wp_X9_forget (S : CST) (a1 : Int32) (Post : CST → Prop) : Prop :=
  (((a1 : Int32) < 0) → (Post S)) ∧ ((¬ ((a1 : Int32) < 0)) → (((15 ≤ a1) → (Post S)) ∧ ((¬ (15 ≤ a1)) → (vp_in a1 15 ∧ (∀ S5 : CST, S5 = cs S 160 0 (upd (cv S 160 0) (a1 : Int32).toNatClampNeg (vp_nar .boolean 0)) → (Post S5))))))
def zw_zd_X9_forget_w0 : List Cond := [.fieldLink RX9 9 "TemplateForge$Smith" "known" "[Z"]
def zw_zd_X9_forget : List Cond := .code yX9_forget cX9_forget 2 none :: ((zw_zd_X9_forget_w0) ++ wsX90)
set_option maxHeartbeats 16000000 in
set_option maxRecDepth 100000 in
theorem zd_X9_forget (l : Launch) (D : va_G) (cI cZ cP cF : Nat) (q : Nat → Nat → Nat) (S : CST) (a1 : Int32) (sz : Nat) (Post : CST → Prop) (h : wp_X9_forget S a1 Post) : Met l yX9_forget zw_zd_X9_forget ({ frames := 0, cells := 0, slots := 0, locals := 0 }) (va_Pc [.ref (q 15 0), .int a1] (fun U => U.heap.size = sz ∧ va_P D vwCl (cW cI cZ cP cF q S) U.heap ∧ zE D cI cZ cP cF U ∧ va_D (fun _ => True) (cW cI cZ cP cF q S))) (va_Qv (fun S' => Post S') (fun (S' : CST) t => va_P D vwCl (cW cI cZ cP cF q S') t.heap ∧ va_D (va_A (cW cI cZ cP cF q S) sz) (cW cI cZ cP cF q S')) (va_A (cW cI cZ cP cF q S) sz)) 0 0 (va_A (cW cI cZ cP cF q S) sz) := by
  unfold wp_X9_forget at h
  refine Met.ofW (cc := cX9_forget) (maxL := 2) (ret := none) (by decide) rfl ?_
  intro p e s m args below meth c s₁ B hml hv
  obtain ⟨rfl, hsz, hP, hE, hD0⟩ := hv
  have hx := B.exec
  have hb := B.bytes
  have hr := B.returns
  have hts := atoms_spec (ws := zw_zd_X9_forget) B.pre
  have hown : s.vm.findClass RX9 = some m.cls := findClass_of_methodNamed B.named
  have hlocks := B.notSynchronized
  have hK := hE.k
  subst hsz
  have hD := hD0.self (sz := s.heap.size)
  generalize hAe : va_A (cW cI cZ cP cF q S) s.heap.size = A at hD ⊢
  have hA : ∀ q : Nat, s.heap.size ≤ q → A q := fun q h => by rw [← hAe]; exact Or.inr h
  have hl := lv_entry ([.ref (q 15 0), .int a1]) (n := 2) (Nat.le_of_ble_eq_true rfl)
  rw [lg_entry_eq]
  generalize (lg_sl ([.ref (q 15 0), .int a1]) ++ List.replicate (2 - (lg_sl ([.ref (q 15 0), .int a1])).length) Slot.unset).toArray = ls at hl ⊢
  have hl : lv_has ls 2 [(0, .ref (q 15 0)), (1, .int a1)] := hl
  have key : ∀ (H : Heap) (locs : List Loc), va_P D vwCl (cW cI cZ cP cF q S) H → va_S A s.heap H locs → W p l e (headSpec zw_zd_X9_forget ({ frames := 0, cells := 0, slots := 0, locals := 0 })).room s m ([.ref (q 15 0), .int a1] : List Value).toArray below meth c H locs 0 0 (MQ below (va_Qv (fun S' => Post S') (fun (S' : CST) t => va_P D vwCl (cW cI cZ cP cF q S') t.heap ∧ va_D A (cW cI cZ cP cF q S')) A) ([.ref (q 15 0), .int a1] : List Value).toArray s 0 0 A) (F0 m 0 ls []) := by
    intro H locs hP hS
    refine lv_iload_n hx hb dX9_forget_0 rfl (lv_at hl 1 rfl) ?_
    refine lv_if_lt (tgt := 17) hx hb dX9_forget_1 (by decide) (fun c_1 => ?_) (fun c_1 => ?_)
    · have h := h.1 c_1
      exact W.vret hx hb hr (fun t ht hW => ⟨⟨S, rfl, h, by rw [ht]; exact hP, hD⟩, hS.F ht⟩) hS.2.2 dX9_forget_17
    · have h := h.2 c_1
      refine lv_iload_n hx hb dX9_forget_4 rfl (lv_at hl 1 rfl) ?_
      refine lv_bipush (v := 15) hx hb dX9_forget_5 (by decide) ?_
      refine lv_icmp_ge (tgt := 17) hx hb dX9_forget_7 (by decide) (fun c_2 => ?_) (fun c_2 => ?_)
      · have h := h.1 c_2
        exact W.vret hx hb hr (fun t ht hW => ⟨⟨S, rfl, h, by rw [ht]; exact hP, hD⟩, hS.F ht⟩) hS.2.2 dX9_forget_17
      · have h := h.2 c_2
        refine lv_aload_n hx hb dX9_forget_10 rfl (lv_at hl 0 rfl) ?_
        obtain ⟨p_3, hp_3⟩ := cget_15 cI cZ cP cF q S
        have hi_3 : cin S 15 0 := Or.inl ⟨by decide, rfl⟩
        refine va_get (D := D) (ci := 9) (v := .ref (q 16 0)) (C := RX9) (T := TX9) (N := 5) hx hb hts (fun _ h => List.mem_cons_of_mem _ (List.mem_append_right _ h)) hown hK hP p_3 hp_3 rfl 1 (by decide) (hts (.fieldLink RX9 9 "TemplateForge$Smith" "known" "[Z") (List.mem_of_getElem? (i := 1) rfl)) (fun _ h9 => h9) rfl dX9_forget_11 ?_
        refine lv_iload_n hx hb dX9_forget_14 rfl (lv_at hl 1 rfl) ?_
        refine lv_iconst (v := 0) hx hb dX9_forget_15 (by decide) ?_
        obtain ⟨p_4, hp_4⟩ := cget_16 cI cZ cP cF q S
        have hi_4 : cin S 16 0 := Or.inl ⟨by decide, rfl⟩
        have hin_4 := h.1
        have h := h.2
        have hD0_4 := hD
        refine va_zast hx hb hK hP hD hS p_4 1 hp_4 rfl hin_4 dX9_forget_16 (fun H locs hP hD hS => ?_)
        obtain ⟨S5, eS5⟩ : ∃ z, z = cs S 160 0 (upd (cv S 160 0) (a1 : Int32).toNatClampNeg (vp_nar .boolean 0)) := ⟨_, rfl⟩
        have hP : va_P D vwCl (cW cI cZ cP cF q S5) H := by rw [eS5, ← cW_put (k := 160) (κ := 16) (i := 0) (g := (upd (cv S 160 0) (a1 : Int32).toNatClampNeg (vp_nar .boolean 0))) rfl hD0_4 hp_4 hi_4, cput_160]; exact hP
        have hD : va_D A (cW cI cZ cP cF q S5) := by rw [eS5, ← cW_put (k := 160) (κ := 16) (i := 0) (g := (upd (cv S 160 0) (a1 : Int32).toNatClampNeg (vp_nar .boolean 0))) rfl hD0_4 hp_4 hi_4, cput_160]; exact hD
        have h := h S5 eS5
        exact W.vret hx hb hr (fun t ht hW => ⟨⟨S5, rfl, h, by rw [ht]; exact hP, hD⟩, hS.F ht⟩) hS.2.2 dX9_forget_17
  exact key _ _ hP va_S.rf

def wp_X5_throwAway (S : CST) (i : Nat) (Post : CST → Prop) : Prop :=
  cin S 28 i ∧ (∀ S2 : CST, S2 = cs S 280 i (fun _ => 0) → (cin S2 28 i ∧ (∀ S4 : CST, S4 = cs S2 282 i (fun _ => 0) → (Post S4))))
def zw_zd_X5_throwAway_w0 : List Cond := [.fieldLink RX5 22 "TemplateForge$Heat" "hasCode" "Z", .fieldLink RX5 26 "TemplateForge$Heat" "counted" "I"]
def zw_zd_X5_throwAway : List Cond := .code yX5_throwAway cX5_throwAway 1 none :: ((zw_zd_X5_throwAway_w0) ++ wsX50)
set_option maxHeartbeats 16000000 in
set_option maxRecDepth 100000 in
theorem zd_X5_throwAway (l : Launch) (D : va_G) (cI cZ cP cF : Nat) (q : Nat → Nat → Nat) (S : CST) (i : Nat) (sz : Nat) (Post : CST → Prop) (h : wp_X5_throwAway S i Post) : Met l yX5_throwAway zw_zd_X5_throwAway ({ frames := 0, cells := 0, slots := 0, locals := 0 }) (va_Pc [.ref (q 28 i)] (fun U => U.heap.size = sz ∧ va_P D vwCl (cW cI cZ cP cF q S) U.heap ∧ zE D cI cZ cP cF U ∧ va_D (fun _ => True) (cW cI cZ cP cF q S))) (va_Qv (fun S' => Post S') (fun (S' : CST) t => va_P D vwCl (cW cI cZ cP cF q S') t.heap ∧ va_D (va_A (cW cI cZ cP cF q S) sz) (cW cI cZ cP cF q S')) (va_A (cW cI cZ cP cF q S) sz)) 0 0 (va_A (cW cI cZ cP cF q S) sz) := by
  unfold wp_X5_throwAway at h
  refine Met.ofW (cc := cX5_throwAway) (maxL := 1) (ret := none) (by decide) rfl ?_
  intro p e s m args below meth c s₁ B hml hv
  obtain ⟨rfl, hsz, hP, hE, hD0⟩ := hv
  have hx := B.exec
  have hb := B.bytes
  have hr := B.returns
  have hts := atoms_spec (ws := zw_zd_X5_throwAway) B.pre
  have hown : s.vm.findClass RX5 = some m.cls := findClass_of_methodNamed B.named
  have hlocks := B.notSynchronized
  have hK := hE.k
  subst hsz
  have hD := hD0.self (sz := s.heap.size)
  generalize hAe : va_A (cW cI cZ cP cF q S) s.heap.size = A at hD ⊢
  have hA : ∀ q : Nat, s.heap.size ≤ q → A q := fun q h => by rw [← hAe]; exact Or.inr h
  have hl := lv_entry ([.ref (q 28 i)]) (n := 1) (Nat.le_of_ble_eq_true rfl)
  rw [lg_entry_eq]
  generalize (lg_sl ([.ref (q 28 i)]) ++ List.replicate (1 - (lg_sl ([.ref (q 28 i)])).length) Slot.unset).toArray = ls at hl ⊢
  have hl : lv_has ls 1 [(0, .ref (q 28 i))] := hl
  have key : ∀ (H : Heap) (locs : List Loc), va_P D vwCl (cW cI cZ cP cF q S) H → va_S A s.heap H locs → W p l e (headSpec zw_zd_X5_throwAway ({ frames := 0, cells := 0, slots := 0, locals := 0 })).room s m ([.ref (q 28 i)] : List Value).toArray below meth c H locs 0 0 (MQ below (va_Qv (fun S' => Post S') (fun (S' : CST) t => va_P D vwCl (cW cI cZ cP cF q S') t.heap ∧ va_D A (cW cI cZ cP cF q S')) A) ([.ref (q 28 i)] : List Value).toArray s 0 0 A) (F0 m 0 ls []) := by
    intro H locs hP hS
    refine lv_aload_n hx hb dX5_throwAway_0 rfl (lv_at hl 0 rfl) ?_
    refine lv_iconst (v := 0) hx hb dX5_throwAway_1 (by decide) ?_
    have hi_1 := h.1
    have h := h.2
    obtain ⟨p_1, hp_1⟩ := cget_28 cI cZ cP cF q S hi_1
    have hD0_1 := hD
    refine va_put (D := D) (ci := 5) (v := .int 0) (ty := .boolean) (C := RX5) (T := TX5) (N := 9) hx hb hts (fun _ h => List.mem_cons_of_mem _ (List.mem_append_right _ h)) tyX5 tyX5_ok nmX5 hown hK hP hD hS p_1 hp_1 rfl 0 (by decide) (hts (.fieldLink RX5 22 "TemplateForge$Heat" "hasCode" "Z") (List.mem_of_getElem? (i := 1) rfl)) (fun _ h9 => h9) rfl (by decide +kernel) rfl rfl (Nat.le_of_ble_eq_true rfl) dX5_throwAway_2 (fun H locs hP hD hS => ?_)
    obtain ⟨S2, eS2⟩ : ∃ z, z = cs S 280 i (fun _ => 0) := ⟨_, rfl⟩
    have hP : va_P D vwCl (cW cI cZ cP cF q S2) H := by rw [eS2, ← cW_put (k := 280) (κ := 28) (i := i) (g := (fun _ => 0)) rfl hD0_1 hp_1 hi_1, cput_280]; exact hP
    have hD : va_D A (cW cI cZ cP cF q S2) := by rw [eS2, ← cW_put (k := 280) (κ := 28) (i := i) (g := (fun _ => 0)) rfl hD0_1 hp_1 hi_1, cput_280]; exact hD
    have h := h S2 eS2
    refine lv_aload_n hx hb dX5_throwAway_5 rfl (lv_at hl 0 rfl) ?_
    refine lv_iconst (v := 0) hx hb dX5_throwAway_6 (by decide) ?_
    have hi_3 := h.1
    have h := h.2
    obtain ⟨p_3, hp_3⟩ := cget_28 cI cZ cP cF q S2 hi_3
    have hD0_3 := hD
    refine va_put (D := D) (ci := 5) (v := .int 0) (ty := .int) (C := RX5) (T := TX5) (N := 9) hx hb hts (fun _ h => List.mem_cons_of_mem _ (List.mem_append_right _ h)) tyX5 tyX5_ok nmX5 hown hK hP hD hS p_3 hp_3 rfl 2 (by decide) (hts (.fieldLink RX5 26 "TemplateForge$Heat" "counted" "I") (List.mem_of_getElem? (i := 2) rfl)) (fun _ h9 => h9) rfl (by decide +kernel) rfl rfl (Nat.le_of_ble_eq_true rfl) dX5_throwAway_7 (fun H locs hP hD hS => ?_)
    obtain ⟨S4, eS4⟩ : ∃ z, z = cs S2 282 i (fun _ => 0) := ⟨_, rfl⟩
    have hP : va_P D vwCl (cW cI cZ cP cF q S4) H := by rw [eS4, ← cW_put (k := 282) (κ := 28) (i := i) (g := (fun _ => 0)) rfl hD0_3 hp_3 hi_3, cput_282]; exact hP
    have hD : va_D A (cW cI cZ cP cF q S4) := by rw [eS4, ← cW_put (k := 282) (κ := 28) (i := i) (g := (fun _ => 0)) rfl hD0_3 hp_3 hi_3, cput_282]; exact hD
    have h := h S4 eS4
    exact W.vret hx hb hr (fun t ht hW => ⟨⟨S4, rfl, h, by rw [ht]; exact hP, hD⟩, hS.F ht⟩) hS.2.2 dX5_throwAway_10
  exact key _ _ hP va_S.rf

def wp_X5_isHot (S : CST) (i : Nat) (Post : Int32 → Prop) : Prop :=
  cin S 28 i ∧ (((¬ (((cv S 280 i 0) : Int32) = 0)) → (Post 0)) ∧ ((((cv S 280 i 0) : Int32) = 0) → (cin S 28 i ∧ (((((cv S 282 i 0) : Int32) < 3) → (Post 0)) ∧ ((¬ (((cv S 282 i 0) : Int32) < 3)) → (Post 1))))))
def zw_zd_X5_isHot_w0 : List Cond := [.fieldLink RX5 22 "TemplateForge$Heat" "hasCode" "Z", .fieldLink RX5 26 "TemplateForge$Heat" "counted" "I"]
def zw_zd_X5_isHot : List Cond := .code yX5_isHot cX5_isHot 1 (some .boolean) :: ((zw_zd_X5_isHot_w0) ++ wsX50)
set_option maxHeartbeats 16000000 in
set_option maxRecDepth 100000 in
theorem zd_X5_isHot (l : Launch) (D : va_G) (cI cZ cP cF : Nat) (q : Nat → Nat → Nat) (S : CST) (i : Nat) (Post : Int32 → Prop) (h : wp_X5_isHot S i Post) : Met l yX5_isHot zw_zd_X5_isHot ({ frames := 0, cells := 0, slots := 0, locals := 0 }) (va_Pc [.ref (q 28 i)] (fun U => va_P D vwCl (cW cI cZ cP cF q S) U.heap ∧ zE D cI cZ cP cF U)) (vp_Si Post) 0 0 (fun _ => False) := by
  unfold wp_X5_isHot at h
  refine Met.ofW (cc := cX5_isHot) (maxL := 1) (ret := (some .boolean)) (by decide) rfl ?_
  intro p e s m args below meth c s₁ B hml hv
  obtain ⟨rfl, hP, hE⟩ := hv
  have hx := B.exec
  have hb := B.bytes
  have hr := B.returns
  have hts := atoms_spec (ws := zw_zd_X5_isHot) B.pre
  have hown : s.vm.findClass RX5 = some m.cls := findClass_of_methodNamed B.named
  have hlocks := B.notSynchronized
  have hK := hE.k
  have hl := lv_entry ([.ref (q 28 i)]) (n := 1) (Nat.le_of_ble_eq_true rfl)
  rw [lg_entry_eq]
  generalize (lg_sl ([.ref (q 28 i)]) ++ List.replicate (1 - (lg_sl ([.ref (q 28 i)])).length) Slot.unset).toArray = ls at hl ⊢
  have hl : lv_has ls 1 [(0, .ref (q 28 i))] := hl
  refine lv_aload_n hx hb dX5_isHot_0 rfl (lv_at hl 0 rfl) ?_
  have hi_1 := h.1
  have h := h.2
  obtain ⟨p_1, hp_1⟩ := cget_28 cI cZ cP cF q S hi_1
  refine va_get (D := D) (ci := 5) (v := .int (cv S 280 i 0)) (C := RX5) (T := TX5) (N := 9) hx hb hts (fun _ h => List.mem_cons_of_mem _ (List.mem_append_right _ h)) hown hK hP p_1 hp_1 rfl 0 (by decide) (hts (.fieldLink RX5 22 "TemplateForge$Heat" "hasCode" "Z") (List.mem_of_getElem? (i := 1) rfl)) (fun _ h9 => h9) rfl dX5_isHot_1 ?_
  refine lv_if_ne (tgt := 19) hx hb dX5_isHot_4 (by decide) (fun c_2 => ?_) (fun c_2 => ?_)
  · have h := h.1 c_2
    refine lv_iconst (v := 0) hx hb dX5_isHot_19 (by decide) ?_
    exact W.zret (v := 0) (ty := .boolean) hx hb hr (by decide) (fun t ht hW => ⟨_, rfl, h, ht⟩) (fun q h => by cases h) dX5_isHot_20
  · have h := h.2 c_2
    refine lv_aload_n hx hb dX5_isHot_7 rfl (lv_at hl 0 rfl) ?_
    have hi_3 := h.1
    have h := h.2
    obtain ⟨p_3, hp_3⟩ := cget_28 cI cZ cP cF q S hi_3
    refine va_get (D := D) (ci := 5) (v := .int (cv S 282 i 0)) (C := RX5) (T := TX5) (N := 9) hx hb hts (fun _ h => List.mem_cons_of_mem _ (List.mem_append_right _ h)) hown hK hP p_3 hp_3 rfl 2 (by decide) (hts (.fieldLink RX5 26 "TemplateForge$Heat" "counted" "I") (List.mem_of_getElem? (i := 2) rfl)) (fun _ h9 => h9) rfl dX5_isHot_8 ?_
    refine lv_iconst (v := 3) hx hb dX5_isHot_11 (by decide) ?_
    refine lv_icmp_lt (tgt := 19) hx hb dX5_isHot_12 (by decide) (fun c_4 => ?_) (fun c_4 => ?_)
    · have h := h.1 c_4
      refine lv_iconst (v := 0) hx hb dX5_isHot_19 (by decide) ?_
      exact W.zret (v := 0) (ty := .boolean) hx hb hr (by decide) (fun t ht hW => ⟨_, rfl, h, ht⟩) (fun q h => by cases h) dX5_isHot_20
    · have h := h.2 c_4
      refine lv_iconst (v := 1) hx hb dX5_isHot_15 (by decide) ?_
      refine lv_goto (tgt := 20) hx hb dX5_isHot_16 (by decide) ?_
      exact W.zret (v := 1) (ty := .boolean) hx hb hr (by decide) (fun t ht hW => ⟨_, rfl, h, ht⟩) (fun q h => by cases h) dX5_isHot_20

def wp_X5_markVarying (S : CST) (i : Nat) (a1 : Int32) (Post : CST → Prop) : Prop :=
  (((a1 : Int32) < 0) → (Post S)) ∧ ((¬ ((a1 : Int32) < 0)) → (((11 ≤ a1) → (Post S)) ∧ ((¬ (11 ≤ a1)) → (cin S 28 i ∧ (cin S 31 i ∧ vp_in a1 11 ∧ (∀ S5 : CST, S5 = cs S 310 i (upd (cv S 310 i) (a1 : Int32).toNatClampNeg (vp_nar .boolean 1)) → (Post S5)))))))
def zw_zd_X5_markVarying_w0 : List Cond := [.fieldLink RX5 19 "TemplateForge$Heat" "varying" "[Z"]
def zw_zd_X5_markVarying : List Cond := .code yX5_markVarying cX5_markVarying 2 none :: ((zw_zd_X5_markVarying_w0) ++ wsX50)
set_option maxHeartbeats 16000000 in
set_option maxRecDepth 100000 in
theorem zd_X5_markVarying (l : Launch) (D : va_G) (cI cZ cP cF : Nat) (q : Nat → Nat → Nat) (S : CST) (i : Nat) (a1 : Int32) (sz : Nat) (Post : CST → Prop) (h : wp_X5_markVarying S i a1 Post) : Met l yX5_markVarying zw_zd_X5_markVarying ({ frames := 0, cells := 0, slots := 0, locals := 0 }) (va_Pc [.ref (q 28 i), .int a1] (fun U => U.heap.size = sz ∧ va_P D vwCl (cW cI cZ cP cF q S) U.heap ∧ zE D cI cZ cP cF U ∧ va_D (fun _ => True) (cW cI cZ cP cF q S))) (va_Qv (fun S' => Post S') (fun (S' : CST) t => va_P D vwCl (cW cI cZ cP cF q S') t.heap ∧ va_D (va_A (cW cI cZ cP cF q S) sz) (cW cI cZ cP cF q S')) (va_A (cW cI cZ cP cF q S) sz)) 0 0 (va_A (cW cI cZ cP cF q S) sz) := by
  unfold wp_X5_markVarying at h
  refine Met.ofW (cc := cX5_markVarying) (maxL := 2) (ret := none) (by decide) rfl ?_
  intro p e s m args below meth c s₁ B hml hv
  obtain ⟨rfl, hsz, hP, hE, hD0⟩ := hv
  have hx := B.exec
  have hb := B.bytes
  have hr := B.returns
  have hts := atoms_spec (ws := zw_zd_X5_markVarying) B.pre
  have hown : s.vm.findClass RX5 = some m.cls := findClass_of_methodNamed B.named
  have hlocks := B.notSynchronized
  have hK := hE.k
  subst hsz
  have hD := hD0.self (sz := s.heap.size)
  generalize hAe : va_A (cW cI cZ cP cF q S) s.heap.size = A at hD ⊢
  have hA : ∀ q : Nat, s.heap.size ≤ q → A q := fun q h => by rw [← hAe]; exact Or.inr h
  have hl := lv_entry ([.ref (q 28 i), .int a1]) (n := 2) (Nat.le_of_ble_eq_true rfl)
  rw [lg_entry_eq]
  generalize (lg_sl ([.ref (q 28 i), .int a1]) ++ List.replicate (2 - (lg_sl ([.ref (q 28 i), .int a1])).length) Slot.unset).toArray = ls at hl ⊢
  have hl : lv_has ls 2 [(0, .ref (q 28 i)), (1, .int a1)] := hl
  have key : ∀ (H : Heap) (locs : List Loc), va_P D vwCl (cW cI cZ cP cF q S) H → va_S A s.heap H locs → W p l e (headSpec zw_zd_X5_markVarying ({ frames := 0, cells := 0, slots := 0, locals := 0 })).room s m ([.ref (q 28 i), .int a1] : List Value).toArray below meth c H locs 0 0 (MQ below (va_Qv (fun S' => Post S') (fun (S' : CST) t => va_P D vwCl (cW cI cZ cP cF q S') t.heap ∧ va_D A (cW cI cZ cP cF q S')) A) ([.ref (q 28 i), .int a1] : List Value).toArray s 0 0 A) (F0 m 0 ls []) := by
    intro H locs hP hS
    refine lv_iload_n hx hb dX5_markVarying_0 rfl (lv_at hl 1 rfl) ?_
    refine lv_if_lt (tgt := 17) hx hb dX5_markVarying_1 (by decide) (fun c_1 => ?_) (fun c_1 => ?_)
    · have h := h.1 c_1
      exact W.vret hx hb hr (fun t ht hW => ⟨⟨S, rfl, h, by rw [ht]; exact hP, hD⟩, hS.F ht⟩) hS.2.2 dX5_markVarying_17
    · have h := h.2 c_1
      refine lv_iload_n hx hb dX5_markVarying_4 rfl (lv_at hl 1 rfl) ?_
      refine lv_bipush (v := 11) hx hb dX5_markVarying_5 (by decide) ?_
      refine lv_icmp_ge (tgt := 17) hx hb dX5_markVarying_7 (by decide) (fun c_2 => ?_) (fun c_2 => ?_)
      · have h := h.1 c_2
        exact W.vret hx hb hr (fun t ht hW => ⟨⟨S, rfl, h, by rw [ht]; exact hP, hD⟩, hS.F ht⟩) hS.2.2 dX5_markVarying_17
      · have h := h.2 c_2
        refine lv_aload_n hx hb dX5_markVarying_10 rfl (lv_at hl 0 rfl) ?_
        have hi_3 := h.1
        have h := h.2
        obtain ⟨p_3, hp_3⟩ := cget_28 cI cZ cP cF q S hi_3
        refine va_get (D := D) (ci := 5) (v := .ref (q 31 i)) (C := RX5) (T := TX5) (N := 9) hx hb hts (fun _ h => List.mem_cons_of_mem _ (List.mem_append_right _ h)) hown hK hP p_3 hp_3 rfl 8 (by decide) (hts (.fieldLink RX5 19 "TemplateForge$Heat" "varying" "[Z") (List.mem_of_getElem? (i := 1) rfl)) (fun _ h9 => h9) rfl dX5_markVarying_11 ?_
        refine lv_iload_n hx hb dX5_markVarying_14 rfl (lv_at hl 1 rfl) ?_
        refine lv_iconst (v := 1) hx hb dX5_markVarying_15 (by decide) ?_
        have hi_4 := h.1
        have h := h.2
        obtain ⟨p_4, hp_4⟩ := cget_31 cI cZ cP cF q S hi_4
        have hin_4 := h.1
        have h := h.2
        have hD0_4 := hD
        refine va_zast hx hb hK hP hD hS p_4 1 hp_4 rfl hin_4 dX5_markVarying_16 (fun H locs hP hD hS => ?_)
        obtain ⟨S5, eS5⟩ : ∃ z, z = cs S 310 i (upd (cv S 310 i) (a1 : Int32).toNatClampNeg (vp_nar .boolean 1)) := ⟨_, rfl⟩
        have hP : va_P D vwCl (cW cI cZ cP cF q S5) H := by rw [eS5, ← cW_put (k := 310) (κ := 31) (i := i) (g := (upd (cv S 310 i) (a1 : Int32).toNatClampNeg (vp_nar .boolean 1))) rfl hD0_4 hp_4 hi_4, cput_310]; exact hP
        have hD : va_D A (cW cI cZ cP cF q S5) := by rw [eS5, ← cW_put (k := 310) (κ := 31) (i := i) (g := (upd (cv S 310 i) (a1 : Int32).toNatClampNeg (vp_nar .boolean 1))) rfl hD0_4 hp_4 hi_4, cput_310]; exact hD
        have h := h S5 eS5
        exact W.vret hx hb hr (fun t ht hW => ⟨⟨S5, rfl, h, by rw [ht]; exact hP, hD⟩, hS.F ht⟩) hS.2.2 dX5_markVarying_17
  exact key _ _ hP va_S.rf

def wp_X5_isVarying (S : CST) (i : Nat) (a1 : Int32) (Post : Int32 → Prop) : Prop :=
  (((a1 : Int32) < 0) → (Post 0)) ∧ ((¬ ((a1 : Int32) < 0)) → (((11 ≤ a1) → (Post 0)) ∧ ((¬ (11 ≤ a1)) → (cin S 28 i ∧ (cin S 31 i ∧ vp_in a1 11 ∧ (((((cv S 310 i (a1 : Int32).toNatClampNeg) : Int32) = 0) → (Post 0)) ∧ ((¬ (((cv S 310 i (a1 : Int32).toNatClampNeg) : Int32) = 0)) → (Post 1))))))))
def zw_zd_X5_isVarying_w0 : List Cond := [.fieldLink RX5 19 "TemplateForge$Heat" "varying" "[Z"]
def zw_zd_X5_isVarying : List Cond := .code yX5_isVarying cX5_isVarying 2 (some .boolean) :: ((zw_zd_X5_isVarying_w0) ++ wsX50)
set_option maxHeartbeats 16000000 in
set_option maxRecDepth 100000 in
theorem zd_X5_isVarying (l : Launch) (D : va_G) (cI cZ cP cF : Nat) (q : Nat → Nat → Nat) (S : CST) (i : Nat) (a1 : Int32) (Post : Int32 → Prop) (h : wp_X5_isVarying S i a1 Post) : Met l yX5_isVarying zw_zd_X5_isVarying ({ frames := 0, cells := 0, slots := 0, locals := 0 }) (va_Pc [.ref (q 28 i), .int a1] (fun U => va_P D vwCl (cW cI cZ cP cF q S) U.heap ∧ zE D cI cZ cP cF U)) (vp_Si Post) 0 0 (fun _ => False) := by
  unfold wp_X5_isVarying at h
  refine Met.ofW (cc := cX5_isVarying) (maxL := 2) (ret := (some .boolean)) (by decide) rfl ?_
  intro p e s m args below meth c s₁ B hml hv
  obtain ⟨rfl, hP, hE⟩ := hv
  have hx := B.exec
  have hb := B.bytes
  have hr := B.returns
  have hts := atoms_spec (ws := zw_zd_X5_isVarying) B.pre
  have hown : s.vm.findClass RX5 = some m.cls := findClass_of_methodNamed B.named
  have hlocks := B.notSynchronized
  have hK := hE.k
  have hl := lv_entry ([.ref (q 28 i), .int a1]) (n := 2) (Nat.le_of_ble_eq_true rfl)
  rw [lg_entry_eq]
  generalize (lg_sl ([.ref (q 28 i), .int a1]) ++ List.replicate (2 - (lg_sl ([.ref (q 28 i), .int a1])).length) Slot.unset).toArray = ls at hl ⊢
  have hl : lv_has ls 2 [(0, .ref (q 28 i)), (1, .int a1)] := hl
  refine lv_iload_n hx hb dX5_isVarying_0 rfl (lv_at hl 1 rfl) ?_
  refine lv_if_lt (tgt := 23) hx hb dX5_isVarying_1 (by decide) (fun c_1 => ?_) (fun c_1 => ?_)
  · have h := h.1 c_1
    refine lv_iconst (v := 0) hx hb dX5_isVarying_23 (by decide) ?_
    exact W.zret (v := 0) (ty := .boolean) hx hb hr (by decide) (fun t ht hW => ⟨_, rfl, h, ht⟩) (fun q h => by cases h) dX5_isVarying_24
  · have h := h.2 c_1
    refine lv_iload_n hx hb dX5_isVarying_4 rfl (lv_at hl 1 rfl) ?_
    refine lv_bipush (v := 11) hx hb dX5_isVarying_5 (by decide) ?_
    refine lv_icmp_ge (tgt := 23) hx hb dX5_isVarying_7 (by decide) (fun c_2 => ?_) (fun c_2 => ?_)
    · have h := h.1 c_2
      refine lv_iconst (v := 0) hx hb dX5_isVarying_23 (by decide) ?_
      exact W.zret (v := 0) (ty := .boolean) hx hb hr (by decide) (fun t ht hW => ⟨_, rfl, h, ht⟩) (fun q h => by cases h) dX5_isVarying_24
    · have h := h.2 c_2
      refine lv_aload_n hx hb dX5_isVarying_10 rfl (lv_at hl 0 rfl) ?_
      have hi_3 := h.1
      have h := h.2
      obtain ⟨p_3, hp_3⟩ := cget_28 cI cZ cP cF q S hi_3
      refine va_get (D := D) (ci := 5) (v := .ref (q 31 i)) (C := RX5) (T := TX5) (N := 9) hx hb hts (fun _ h => List.mem_cons_of_mem _ (List.mem_append_right _ h)) hown hK hP p_3 hp_3 rfl 8 (by decide) (hts (.fieldLink RX5 19 "TemplateForge$Heat" "varying" "[Z") (List.mem_of_getElem? (i := 1) rfl)) (fun _ h9 => h9) rfl dX5_isVarying_11 ?_
      refine lv_iload_n hx hb dX5_isVarying_14 rfl (lv_at hl 1 rfl) ?_
      have hi_4 := h.1
      have h := h.2
      obtain ⟨p_4, hp_4⟩ := cget_31 cI cZ cP cF q S hi_4
      have hin_4 := h.1
      have h := h.2
      refine va_zald hx hb hK hP p_4 1 hp_4 rfl hin_4 dX5_isVarying_15 ?_
      refine lv_if_eq (tgt := 23) hx hb dX5_isVarying_16 (by decide) (fun c_5 => ?_) (fun c_5 => ?_)
      · have h := h.1 c_5
        refine lv_iconst (v := 0) hx hb dX5_isVarying_23 (by decide) ?_
        exact W.zret (v := 0) (ty := .boolean) hx hb hr (by decide) (fun t ht hW => ⟨_, rfl, h, ht⟩) (fun q h => by cases h) dX5_isVarying_24
      · have h := h.2 c_5
        refine lv_iconst (v := 1) hx hb dX5_isVarying_19 (by decide) ?_
        refine lv_goto (tgt := 24) hx hb dX5_isVarying_20 (by decide) ?_
        exact W.zret (v := 1) (ty := .boolean) hx hb hr (by decide) (fun t ht hW => ⟨_, rfl, h, ht⟩) (fun q h => by cases h) dX5_isVarying_24

def wp_X5_wasAlways (S : CST) (i : Nat) (a1 : Int32) (Post : Int32 → Prop) : Prop :=
  cin S 28 i ∧ (((((cv S 282 i 0) : Int32) ≤ 0) → (Post 0)) ∧ ((¬ (((cv S 282 i 0) : Int32) ≤ 0)) → ((((a1 : Int32) < 0) → (Post 0)) ∧ ((¬ ((a1 : Int32) < 0)) → (((11 ≤ a1) → (Post 0)) ∧ ((¬ (11 ≤ a1)) → (cin S 28 i ∧ (cin S 30 i ∧ vp_in a1 11 ∧ (((((cv S 300 i (a1 : Int32).toNatClampNeg) : Int32) = 0) → (Post 0)) ∧ ((¬ (((cv S 300 i (a1 : Int32).toNatClampNeg) : Int32) = 0)) → (cin S 28 i ∧ (cin S 31 i ∧ vp_in a1 11 ∧ (((¬ (((cv S 310 i (a1 : Int32).toNatClampNeg) : Int32) = 0)) → (Post 0)) ∧ ((((cv S 310 i (a1 : Int32).toNatClampNeg) : Int32) = 0) → (Post 1)))))))))))))))
def zw_zd_X5_wasAlways_w0 : List Cond := [.fieldLink RX5 26 "TemplateForge$Heat" "counted" "I", .fieldLink RX5 15 "TemplateForge$Heat" "same" "[Z", .fieldLink RX5 19 "TemplateForge$Heat" "varying" "[Z"]
def zw_zd_X5_wasAlways : List Cond := .code yX5_wasAlways cX5_wasAlways 2 (some .boolean) :: ((zw_zd_X5_wasAlways_w0) ++ wsX50)
set_option maxHeartbeats 16000000 in
set_option maxRecDepth 100000 in
theorem zd_X5_wasAlways (l : Launch) (D : va_G) (cI cZ cP cF : Nat) (q : Nat → Nat → Nat) (S : CST) (i : Nat) (a1 : Int32) (Post : Int32 → Prop) (h : wp_X5_wasAlways S i a1 Post) : Met l yX5_wasAlways zw_zd_X5_wasAlways ({ frames := 0, cells := 0, slots := 0, locals := 0 }) (va_Pc [.ref (q 28 i), .int a1] (fun U => va_P D vwCl (cW cI cZ cP cF q S) U.heap ∧ zE D cI cZ cP cF U)) (vp_Si Post) 0 0 (fun _ => False) := by
  unfold wp_X5_wasAlways at h
  refine Met.ofW (cc := cX5_wasAlways) (maxL := 2) (ret := (some .boolean)) (by decide) rfl ?_
  intro p e s m args below meth c s₁ B hml hv
  obtain ⟨rfl, hP, hE⟩ := hv
  have hx := B.exec
  have hb := B.bytes
  have hr := B.returns
  have hts := atoms_spec (ws := zw_zd_X5_wasAlways) B.pre
  have hown : s.vm.findClass RX5 = some m.cls := findClass_of_methodNamed B.named
  have hlocks := B.notSynchronized
  have hK := hE.k
  have hl := lv_entry ([.ref (q 28 i), .int a1]) (n := 2) (Nat.le_of_ble_eq_true rfl)
  rw [lg_entry_eq]
  generalize (lg_sl ([.ref (q 28 i), .int a1]) ++ List.replicate (2 - (lg_sl ([.ref (q 28 i), .int a1])).length) Slot.unset).toArray = ls at hl ⊢
  have hl : lv_has ls 2 [(0, .ref (q 28 i)), (1, .int a1)] := hl
  refine lv_aload_n hx hb dX5_wasAlways_0 rfl (lv_at hl 0 rfl) ?_
  have hi_1 := h.1
  have h := h.2
  obtain ⟨p_1, hp_1⟩ := cget_28 cI cZ cP cF q S hi_1
  refine va_get (D := D) (ci := 5) (v := .int (cv S 282 i 0)) (C := RX5) (T := TX5) (N := 9) hx hb hts (fun _ h => List.mem_cons_of_mem _ (List.mem_append_right _ h)) hown hK hP p_1 hp_1 rfl 2 (by decide) (hts (.fieldLink RX5 26 "TemplateForge$Heat" "counted" "I") (List.mem_of_getElem? (i := 1) rfl)) (fun _ h9 => h9) rfl dX5_wasAlways_1 ?_
  refine lv_if_le (tgt := 39) hx hb dX5_wasAlways_4 (by decide) (fun c_2 => ?_) (fun c_2 => ?_)
  · have h := h.1 c_2
    refine lv_iconst (v := 0) hx hb dX5_wasAlways_39 (by decide) ?_
    exact W.zret (v := 0) (ty := .boolean) hx hb hr (by decide) (fun t ht hW => ⟨_, rfl, h, ht⟩) (fun q h => by cases h) dX5_wasAlways_40
  · have h := h.2 c_2
    refine lv_iload_n hx hb dX5_wasAlways_7 rfl (lv_at hl 1 rfl) ?_
    refine lv_if_lt (tgt := 39) hx hb dX5_wasAlways_8 (by decide) (fun c_3 => ?_) (fun c_3 => ?_)
    · have h := h.1 c_3
      refine lv_iconst (v := 0) hx hb dX5_wasAlways_39 (by decide) ?_
      exact W.zret (v := 0) (ty := .boolean) hx hb hr (by decide) (fun t ht hW => ⟨_, rfl, h, ht⟩) (fun q h => by cases h) dX5_wasAlways_40
    · have h := h.2 c_3
      refine lv_iload_n hx hb dX5_wasAlways_11 rfl (lv_at hl 1 rfl) ?_
      refine lv_bipush (v := 11) hx hb dX5_wasAlways_12 (by decide) ?_
      refine lv_icmp_ge (tgt := 39) hx hb dX5_wasAlways_14 (by decide) (fun c_4 => ?_) (fun c_4 => ?_)
      · have h := h.1 c_4
        refine lv_iconst (v := 0) hx hb dX5_wasAlways_39 (by decide) ?_
        exact W.zret (v := 0) (ty := .boolean) hx hb hr (by decide) (fun t ht hW => ⟨_, rfl, h, ht⟩) (fun q h => by cases h) dX5_wasAlways_40
      · have h := h.2 c_4
        refine lv_aload_n hx hb dX5_wasAlways_17 rfl (lv_at hl 0 rfl) ?_
        have hi_5 := h.1
        have h := h.2
        obtain ⟨p_5, hp_5⟩ := cget_28 cI cZ cP cF q S hi_5
        refine va_get (D := D) (ci := 5) (v := .ref (q 30 i)) (C := RX5) (T := TX5) (N := 9) hx hb hts (fun _ h => List.mem_cons_of_mem _ (List.mem_append_right _ h)) hown hK hP p_5 hp_5 rfl 7 (by decide) (hts (.fieldLink RX5 15 "TemplateForge$Heat" "same" "[Z") (List.mem_of_getElem? (i := 2) rfl)) (fun _ h9 => h9) rfl dX5_wasAlways_18 ?_
        refine lv_iload_n hx hb dX5_wasAlways_21 rfl (lv_at hl 1 rfl) ?_
        have hi_6 := h.1
        have h := h.2
        obtain ⟨p_6, hp_6⟩ := cget_30 cI cZ cP cF q S hi_6
        have hin_6 := h.1
        have h := h.2
        refine va_zald hx hb hK hP p_6 1 hp_6 rfl hin_6 dX5_wasAlways_22 ?_
        refine lv_if_eq (tgt := 39) hx hb dX5_wasAlways_23 (by decide) (fun c_7 => ?_) (fun c_7 => ?_)
        · have h := h.1 c_7
          refine lv_iconst (v := 0) hx hb dX5_wasAlways_39 (by decide) ?_
          exact W.zret (v := 0) (ty := .boolean) hx hb hr (by decide) (fun t ht hW => ⟨_, rfl, h, ht⟩) (fun q h => by cases h) dX5_wasAlways_40
        · have h := h.2 c_7
          refine lv_aload_n hx hb dX5_wasAlways_26 rfl (lv_at hl 0 rfl) ?_
          have hi_8 := h.1
          have h := h.2
          obtain ⟨p_8, hp_8⟩ := cget_28 cI cZ cP cF q S hi_8
          refine va_get (D := D) (ci := 5) (v := .ref (q 31 i)) (C := RX5) (T := TX5) (N := 9) hx hb hts (fun _ h => List.mem_cons_of_mem _ (List.mem_append_right _ h)) hown hK hP p_8 hp_8 rfl 8 (by decide) (hts (.fieldLink RX5 19 "TemplateForge$Heat" "varying" "[Z") (List.mem_of_getElem? (i := 3) rfl)) (fun _ h9 => h9) rfl dX5_wasAlways_27 ?_
          refine lv_iload_n hx hb dX5_wasAlways_30 rfl (lv_at hl 1 rfl) ?_
          have hi_9 := h.1
          have h := h.2
          obtain ⟨p_9, hp_9⟩ := cget_31 cI cZ cP cF q S hi_9
          have hin_9 := h.1
          have h := h.2
          refine va_zald hx hb hK hP p_9 1 hp_9 rfl hin_9 dX5_wasAlways_31 ?_
          refine lv_if_ne (tgt := 39) hx hb dX5_wasAlways_32 (by decide) (fun c_10 => ?_) (fun c_10 => ?_)
          · have h := h.1 c_10
            refine lv_iconst (v := 0) hx hb dX5_wasAlways_39 (by decide) ?_
            exact W.zret (v := 0) (ty := .boolean) hx hb hr (by decide) (fun t ht hW => ⟨_, rfl, h, ht⟩) (fun q h => by cases h) dX5_wasAlways_40
          · have h := h.2 c_10
            refine lv_iconst (v := 1) hx hb dX5_wasAlways_35 (by decide) ?_
            refine lv_goto (tgt := 40) hx hb dX5_wasAlways_36 (by decide) ?_
            exact W.zret (v := 1) (ty := .boolean) hx hb hr (by decide) (fun t ht hW => ⟨_, rfl, h, ht⟩) (fun q h => by cases h) dX5_wasAlways_40

def wp_X2_put (S : CST) (a1 : Int32) (a2 : Int32) (Post : CST → Prop) : Prop :=
  (((a1 : Int32) < 0) → (Post S)) ∧ ((¬ ((a1 : Int32) < 0)) → (((8 ≤ a1) → (Post S)) ∧ ((¬ (8 ≤ a1)) → (vp_in a1 8 ∧ (∀ S5 : CST, S5 = cs S 40 0 (upd (cv S 40 0) (a1 : Int32).toNatClampNeg a2) → (Post S5))))))
def zw_zd_X2_put_w0 : List Cond := [.fieldLink RX2 9 "TemplateForge$Data" "fields" "[I"]
def zw_zd_X2_put : List Cond := .code yX2_put cX2_put 3 none :: ((zw_zd_X2_put_w0) ++ wsX20)
set_option maxHeartbeats 16000000 in
set_option maxRecDepth 100000 in
theorem zd_X2_put (l : Launch) (D : va_G) (cI cZ cP cF : Nat) (q : Nat → Nat → Nat) (S : CST) (a1 : Int32) (a2 : Int32) (sz : Nat) (Post : CST → Prop) (h : wp_X2_put S a1 a2 Post) : Met l yX2_put zw_zd_X2_put ({ frames := 0, cells := 0, slots := 0, locals := 0 }) (va_Pc [.ref (q 3 0), .int a1, .int a2] (fun U => U.heap.size = sz ∧ va_P D vwCl (cW cI cZ cP cF q S) U.heap ∧ zE D cI cZ cP cF U ∧ va_D (fun _ => True) (cW cI cZ cP cF q S))) (va_Qv (fun S' => Post S') (fun (S' : CST) t => va_P D vwCl (cW cI cZ cP cF q S') t.heap ∧ va_D (va_A (cW cI cZ cP cF q S) sz) (cW cI cZ cP cF q S')) (va_A (cW cI cZ cP cF q S) sz)) 0 0 (va_A (cW cI cZ cP cF q S) sz) := by
  unfold wp_X2_put at h
  refine Met.ofW (cc := cX2_put) (maxL := 3) (ret := none) (by decide) rfl ?_
  intro p e s m args below meth c s₁ B hml hv
  obtain ⟨rfl, hsz, hP, hE, hD0⟩ := hv
  have hx := B.exec
  have hb := B.bytes
  have hr := B.returns
  have hts := atoms_spec (ws := zw_zd_X2_put) B.pre
  have hown : s.vm.findClass RX2 = some m.cls := findClass_of_methodNamed B.named
  have hlocks := B.notSynchronized
  have hK := hE.k
  subst hsz
  have hD := hD0.self (sz := s.heap.size)
  generalize hAe : va_A (cW cI cZ cP cF q S) s.heap.size = A at hD ⊢
  have hA : ∀ q : Nat, s.heap.size ≤ q → A q := fun q h => by rw [← hAe]; exact Or.inr h
  have hl := lv_entry ([.ref (q 3 0), .int a1, .int a2]) (n := 3) (Nat.le_of_ble_eq_true rfl)
  rw [lg_entry_eq]
  generalize (lg_sl ([.ref (q 3 0), .int a1, .int a2]) ++ List.replicate (3 - (lg_sl ([.ref (q 3 0), .int a1, .int a2])).length) Slot.unset).toArray = ls at hl ⊢
  have hl : lv_has ls 3 [(0, .ref (q 3 0)), (1, .int a1), (2, .int a2)] := hl
  have key : ∀ (H : Heap) (locs : List Loc), va_P D vwCl (cW cI cZ cP cF q S) H → va_S A s.heap H locs → W p l e (headSpec zw_zd_X2_put ({ frames := 0, cells := 0, slots := 0, locals := 0 })).room s m ([.ref (q 3 0), .int a1, .int a2] : List Value).toArray below meth c H locs 0 0 (MQ below (va_Qv (fun S' => Post S') (fun (S' : CST) t => va_P D vwCl (cW cI cZ cP cF q S') t.heap ∧ va_D A (cW cI cZ cP cF q S')) A) ([.ref (q 3 0), .int a1, .int a2] : List Value).toArray s 0 0 A) (F0 m 0 ls []) := by
    intro H locs hP hS
    refine lv_iload_n hx hb dX2_put_0 rfl (lv_at hl 1 rfl) ?_
    refine lv_if_lt (tgt := 17) hx hb dX2_put_1 (by decide) (fun c_1 => ?_) (fun c_1 => ?_)
    · have h := h.1 c_1
      exact W.vret hx hb hr (fun t ht hW => ⟨⟨S, rfl, h, by rw [ht]; exact hP, hD⟩, hS.F ht⟩) hS.2.2 dX2_put_17
    · have h := h.2 c_1
      refine lv_iload_n hx hb dX2_put_4 rfl (lv_at hl 1 rfl) ?_
      refine lv_bipush (v := 8) hx hb dX2_put_5 (by decide) ?_
      refine lv_icmp_ge (tgt := 17) hx hb dX2_put_7 (by decide) (fun c_2 => ?_) (fun c_2 => ?_)
      · have h := h.1 c_2
        exact W.vret hx hb hr (fun t ht hW => ⟨⟨S, rfl, h, by rw [ht]; exact hP, hD⟩, hS.F ht⟩) hS.2.2 dX2_put_17
      · have h := h.2 c_2
        refine lv_aload_n hx hb dX2_put_10 rfl (lv_at hl 0 rfl) ?_
        obtain ⟨p_3, hp_3⟩ := cget_3 cI cZ cP cF q S
        have hi_3 : cin S 3 0 := Or.inl ⟨by decide, rfl⟩
        refine va_get (D := D) (ci := 2) (v := .ref (q 4 0)) (C := RX2) (T := TX2) (N := 3) hx hb hts (fun _ h => List.mem_cons_of_mem _ (List.mem_append_right _ h)) hown hK hP p_3 hp_3 rfl 0 (by decide) (hts (.fieldLink RX2 9 "TemplateForge$Data" "fields" "[I") (List.mem_of_getElem? (i := 1) rfl)) (fun _ h9 => h9) rfl dX2_put_11 ?_
        refine lv_iload_n hx hb dX2_put_14 rfl (lv_at hl 1 rfl) ?_
        refine lv_iload_n hx hb dX2_put_15 rfl (lv_at hl 2 rfl) ?_
        obtain ⟨p_4, hp_4⟩ := cget_4 cI cZ cP cF q S
        have hi_4 : cin S 4 0 := Or.inl ⟨by decide, rfl⟩
        have hin_4 := h.1
        have h := h.2
        have hD0_4 := hD
        refine va_iast hx hb hK hP hD hS p_4 0 hp_4 rfl hin_4 dX2_put_16 (fun H locs hP hD hS => ?_)
        obtain ⟨S5, eS5⟩ : ∃ z, z = cs S 40 0 (upd (cv S 40 0) (a1 : Int32).toNatClampNeg a2) := ⟨_, rfl⟩
        have hP : va_P D vwCl (cW cI cZ cP cF q S5) H := by rw [eS5, ← cW_put (k := 40) (κ := 4) (i := 0) (g := (upd (cv S 40 0) (a1 : Int32).toNatClampNeg a2)) rfl hD0_4 hp_4 hi_4, cput_40]; exact hP
        have hD : va_D A (cW cI cZ cP cF q S5) := by rw [eS5, ← cW_put (k := 40) (κ := 4) (i := 0) (g := (upd (cv S 40 0) (a1 : Int32).toNatClampNeg a2)) rfl hD0_4 hp_4 hi_4, cput_40]; exact hD
        have h := h S5 eS5
        exact W.vret hx hb hr (fun t ht hW => ⟨⟨S5, rfl, h, by rw [ht]; exact hP, hD⟩, hS.F ht⟩) hS.2.2 dX2_put_17
  exact key _ _ hP va_S.rf

def wp_X3_begin (S : CST) (a1 : Int32) (Post : CST → Prop) : Prop :=
  (((a1 : Int32) < 0) → (Post S)) ∧ ((¬ ((a1 : Int32) < 0)) → (((60 ≤ a1) → (Post S)) ∧ ((¬ (60 ≤ a1)) → (vp_in a1 60 ∧ (∀ S6 : CST, S6 = cs S 90 0 (upd (cv S 90 0) (a1 : Int32).toNatClampNeg (cv S 72 0 0)) → (Post S6))))))
def zw_zd_X3_begin_w0 : List Cond := [.fieldLink RX3 15 "TemplateForge$Draft" "starts" "[I", .fieldLink RX3 18 "TemplateForge$Draft" "parts" "I"]
def zw_zd_X3_begin : List Cond := .code yX3_begin cX3_begin 2 none :: ((zw_zd_X3_begin_w0) ++ wsX30)
set_option maxHeartbeats 16000000 in
set_option maxRecDepth 100000 in
theorem zd_X3_begin (l : Launch) (D : va_G) (cI cZ cP cF : Nat) (q : Nat → Nat → Nat) (S : CST) (a1 : Int32) (sz : Nat) (Post : CST → Prop) (h : wp_X3_begin S a1 Post) : Met l yX3_begin zw_zd_X3_begin ({ frames := 0, cells := 0, slots := 0, locals := 0 }) (va_Pc [.ref (q 7 0), .int a1] (fun U => U.heap.size = sz ∧ va_P D vwCl (cW cI cZ cP cF q S) U.heap ∧ zE D cI cZ cP cF U ∧ va_D (fun _ => True) (cW cI cZ cP cF q S))) (va_Qv (fun S' => Post S') (fun (S' : CST) t => va_P D vwCl (cW cI cZ cP cF q S') t.heap ∧ va_D (va_A (cW cI cZ cP cF q S) sz) (cW cI cZ cP cF q S')) (va_A (cW cI cZ cP cF q S) sz)) 0 0 (va_A (cW cI cZ cP cF q S) sz) := by
  unfold wp_X3_begin at h
  refine Met.ofW (cc := cX3_begin) (maxL := 2) (ret := none) (by decide) rfl ?_
  intro p e s m args below meth c s₁ B hml hv
  obtain ⟨rfl, hsz, hP, hE, hD0⟩ := hv
  have hx := B.exec
  have hb := B.bytes
  have hr := B.returns
  have hts := atoms_spec (ws := zw_zd_X3_begin) B.pre
  have hown : s.vm.findClass RX3 = some m.cls := findClass_of_methodNamed B.named
  have hlocks := B.notSynchronized
  have hK := hE.k
  subst hsz
  have hD := hD0.self (sz := s.heap.size)
  generalize hAe : va_A (cW cI cZ cP cF q S) s.heap.size = A at hD ⊢
  have hA : ∀ q : Nat, s.heap.size ≤ q → A q := fun q h => by rw [← hAe]; exact Or.inr h
  have hl := lv_entry ([.ref (q 7 0), .int a1]) (n := 2) (Nat.le_of_ble_eq_true rfl)
  rw [lg_entry_eq]
  generalize (lg_sl ([.ref (q 7 0), .int a1]) ++ List.replicate (2 - (lg_sl ([.ref (q 7 0), .int a1])).length) Slot.unset).toArray = ls at hl ⊢
  have hl : lv_has ls 2 [(0, .ref (q 7 0)), (1, .int a1)] := hl
  have key : ∀ (H : Heap) (locs : List Loc), va_P D vwCl (cW cI cZ cP cF q S) H → va_S A s.heap H locs → W p l e (headSpec zw_zd_X3_begin ({ frames := 0, cells := 0, slots := 0, locals := 0 })).room s m ([.ref (q 7 0), .int a1] : List Value).toArray below meth c H locs 0 0 (MQ below (va_Qv (fun S' => Post S') (fun (S' : CST) t => va_P D vwCl (cW cI cZ cP cF q S') t.heap ∧ va_D A (cW cI cZ cP cF q S')) A) ([.ref (q 7 0), .int a1] : List Value).toArray s 0 0 A) (F0 m 0 ls []) := by
    intro H locs hP hS
    refine lv_iload_n hx hb dX3_begin_0 rfl (lv_at hl 1 rfl) ?_
    refine lv_if_lt (tgt := 20) hx hb dX3_begin_1 (by decide) (fun c_1 => ?_) (fun c_1 => ?_)
    · have h := h.1 c_1
      exact W.vret hx hb hr (fun t ht hW => ⟨⟨S, rfl, h, by rw [ht]; exact hP, hD⟩, hS.F ht⟩) hS.2.2 dX3_begin_20
    · have h := h.2 c_1
      refine lv_iload_n hx hb dX3_begin_4 rfl (lv_at hl 1 rfl) ?_
      refine lv_bipush (v := 60) hx hb dX3_begin_5 (by decide) ?_
      refine lv_icmp_ge (tgt := 20) hx hb dX3_begin_7 (by decide) (fun c_2 => ?_) (fun c_2 => ?_)
      · have h := h.1 c_2
        exact W.vret hx hb hr (fun t ht hW => ⟨⟨S, rfl, h, by rw [ht]; exact hP, hD⟩, hS.F ht⟩) hS.2.2 dX3_begin_20
      · have h := h.2 c_2
        refine lv_aload_n hx hb dX3_begin_10 rfl (lv_at hl 0 rfl) ?_
        obtain ⟨p_3, hp_3⟩ := cget_7 cI cZ cP cF q S
        have hi_3 : cin S 7 0 := Or.inl ⟨by decide, rfl⟩
        refine va_get (D := D) (ci := 3) (v := .ref (q 9 0)) (C := RX3) (T := TX3) (N := 3) hx hb hts (fun _ h => List.mem_cons_of_mem _ (List.mem_append_right _ h)) hown hK hP p_3 hp_3 rfl 1 (by decide) (hts (.fieldLink RX3 15 "TemplateForge$Draft" "starts" "[I") (List.mem_of_getElem? (i := 1) rfl)) (fun _ h9 => h9) rfl dX3_begin_11 ?_
        refine lv_iload_n hx hb dX3_begin_14 rfl (lv_at hl 1 rfl) ?_
        refine lv_aload_n hx hb dX3_begin_15 rfl (lv_at hl 0 rfl) ?_
        obtain ⟨p_4, hp_4⟩ := cget_7 cI cZ cP cF q S
        have hi_4 : cin S 7 0 := Or.inl ⟨by decide, rfl⟩
        refine va_get (D := D) (ci := 3) (v := .int (cv S 72 0 0)) (C := RX3) (T := TX3) (N := 3) hx hb hts (fun _ h => List.mem_cons_of_mem _ (List.mem_append_right _ h)) hown hK hP p_4 hp_4 rfl 2 (by decide) (hts (.fieldLink RX3 18 "TemplateForge$Draft" "parts" "I") (List.mem_of_getElem? (i := 2) rfl)) (fun _ h9 => h9) rfl dX3_begin_16 ?_
        obtain ⟨p_5, hp_5⟩ := cget_9 cI cZ cP cF q S
        have hi_5 : cin S 9 0 := Or.inl ⟨by decide, rfl⟩
        have hin_5 := h.1
        have h := h.2
        have hD0_5 := hD
        refine va_iast hx hb hK hP hD hS p_5 0 hp_5 rfl hin_5 dX3_begin_19 (fun H locs hP hD hS => ?_)
        obtain ⟨S6, eS6⟩ : ∃ z, z = cs S 90 0 (upd (cv S 90 0) (a1 : Int32).toNatClampNeg (cv S 72 0 0)) := ⟨_, rfl⟩
        have hP : va_P D vwCl (cW cI cZ cP cF q S6) H := by rw [eS6, ← cW_put (k := 90) (κ := 9) (i := 0) (g := (upd (cv S 90 0) (a1 : Int32).toNatClampNeg (cv S 72 0 0))) rfl hD0_5 hp_5 hi_5, cput_90]; exact hP
        have hD : va_D A (cW cI cZ cP cF q S6) := by rw [eS6, ← cW_put (k := 90) (κ := 9) (i := 0) (g := (upd (cv S 90 0) (a1 : Int32).toNatClampNeg (cv S 72 0 0))) rfl hD0_5 hp_5 hi_5, cput_90]; exact hD
        have h := h S6 eS6
        exact W.vret hx hb hr (fun t ht hW => ⟨⟨S6, rfl, h, by rw [ht]; exact hP, hD⟩, hS.F ht⟩) hS.2.2 dX3_begin_20
  exact key _ _ hP va_S.rf

def wp_X8_isRight (S : CST) (i : Nat) (Post : Int32 → Prop) : Prop :=
  cin S 24 i ∧ (((((cv S 248 i 0) : Int32) = (-1)) → (Post 0)) ∧ ((¬ (((cv S 248 i 0) : Int32) = (-1))) → (Post 1)))
def zw_zd_X8_isRight_w0 : List Cond := [.fieldLink RX8 28 "TemplateForge$Program" "deepest" "I"]
def zw_zd_X8_isRight : List Cond := .code yX8_isRight cX8_isRight 1 (some .boolean) :: ((zw_zd_X8_isRight_w0) ++ wsX80)
set_option maxHeartbeats 16000000 in
set_option maxRecDepth 100000 in
theorem zd_X8_isRight (l : Launch) (D : va_G) (cI cZ cP cF : Nat) (q : Nat → Nat → Nat) (S : CST) (i : Nat) (Post : Int32 → Prop) (h : wp_X8_isRight S i Post) : Met l yX8_isRight zw_zd_X8_isRight ({ frames := 0, cells := 0, slots := 0, locals := 0 }) (va_Pc [.ref (q 24 i)] (fun U => va_P D vwCl (cW cI cZ cP cF q S) U.heap ∧ zE D cI cZ cP cF U)) (vp_Si Post) 0 0 (fun _ => False) := by
  unfold wp_X8_isRight at h
  refine Met.ofW (cc := cX8_isRight) (maxL := 1) (ret := (some .boolean)) (by decide) rfl ?_
  intro p e s m args below meth c s₁ B hml hv
  obtain ⟨rfl, hP, hE⟩ := hv
  have hx := B.exec
  have hb := B.bytes
  have hr := B.returns
  have hts := atoms_spec (ws := zw_zd_X8_isRight) B.pre
  have hown : s.vm.findClass RX8 = some m.cls := findClass_of_methodNamed B.named
  have hlocks := B.notSynchronized
  have hK := hE.k
  have hl := lv_entry ([.ref (q 24 i)]) (n := 1) (Nat.le_of_ble_eq_true rfl)
  rw [lg_entry_eq]
  generalize (lg_sl ([.ref (q 24 i)]) ++ List.replicate (1 - (lg_sl ([.ref (q 24 i)])).length) Slot.unset).toArray = ls at hl ⊢
  have hl : lv_has ls 1 [(0, .ref (q 24 i))] := hl
  refine lv_aload_n hx hb dX8_isRight_0 rfl (lv_at hl 0 rfl) ?_
  have hi_1 := h.1
  have h := h.2
  obtain ⟨p_1, hp_1⟩ := cget_24 cI cZ cP cF q S hi_1
  refine va_get (D := D) (ci := 8) (v := .int (cv S 248 i 0)) (C := RX8) (T := TX8) (N := 10) hx hb hts (fun _ h => List.mem_cons_of_mem _ (List.mem_append_right _ h)) hown hK hP p_1 hp_1 rfl 8 (by decide) (hts (.fieldLink RX8 28 "TemplateForge$Program" "deepest" "I") (List.mem_of_getElem? (i := 1) rfl)) (fun _ h9 => h9) rfl dX8_isRight_1 ?_
  refine lv_iconst (v := (-1)) hx hb dX8_isRight_4 (by decide) ?_
  refine lv_icmp_eq (tgt := 12) hx hb dX8_isRight_5 (by decide) (fun c_2 => ?_) (fun c_2 => ?_)
  · have h := h.1 c_2
    refine lv_iconst (v := 0) hx hb dX8_isRight_12 (by decide) ?_
    exact W.zret (v := 0) (ty := .boolean) hx hb hr (by decide) (fun t ht hW => ⟨_, rfl, h, ht⟩) (fun q h => by cases h) dX8_isRight_13
  · have h := h.2 c_2
    refine lv_iconst (v := 1) hx hb dX8_isRight_8 (by decide) ?_
    refine lv_goto (tgt := 13) hx hb dX8_isRight_9 (by decide) ?_
    exact W.zret (v := 1) (ty := .boolean) hx hb hr (by decide) (fun t ht hW => ⟨_, rfl, h, ht⟩) (fun q h => by cases h) dX8_isRight_13

def wp_X8_append (S : CST) (i : Nat) (a1 : Int32) (a2 : Int32) (Post : CST → Int32 → Prop) : Prop :=
  cin S 24 i ∧ (((((cv S 247 i 0) : Int32) < 60) → (cin S 24 i ∧ (cin S 24 i ∧ (cin S 25 i ∧ vp_in (cv S 247 i 0) 60 ∧ (∀ S6 : CST, S6 = cs S 250 i (upd (cv S 250 i) (cv S 247 i 0 : Int32).toNatClampNeg a1) → (cin S6 24 i ∧ (cin S6 24 i ∧ (cin S6 26 i ∧ vp_in (cv S6 247 i 0) 60 ∧ (∀ S10 : CST, S10 = cs S6 260 i (upd (cv S6 260 i) (cv S6 247 i 0 : Int32).toNatClampNeg a2) → (cin S10 24 i ∧ (cin S10 24 i ∧ (∀ S13 : CST, S13 = cs S10 247 i (fun _ => (cv S10 247 i 0) + 1) → (cin S13 24 i ∧ (Post S13 ((cv S13 247 i 0) - 1))))))))))))))) ∧ ((¬ (((cv S 247 i 0) : Int32) < 60)) → (Post S (-4))))
def zw_zd_X8_append_w0 : List Cond := [.fieldLink RX8 41 "TemplateForge$Program" "length" "I", .fieldLink RX8 18 "TemplateForge$Program" "ops" "[I", .fieldLink RX8 22 "TemplateForge$Program" "xs" "[I"]
def zw_zd_X8_append : List Cond := .code yX8_append cX8_append 3 (some .int) :: ((zw_zd_X8_append_w0) ++ wsX80)
set_option maxHeartbeats 16000000 in
set_option maxRecDepth 100000 in
theorem zd_X8_append (l : Launch) (D : va_G) (cI cZ cP cF : Nat) (q : Nat → Nat → Nat) (S : CST) (i : Nat) (a1 : Int32) (a2 : Int32) (sz : Nat) (Post : CST → Int32 → Prop) (h : wp_X8_append S i a1 a2 Post) : Met l yX8_append zw_zd_X8_append ({ frames := 0, cells := 0, slots := 0, locals := 0 }) (va_Pc [.ref (q 24 i), .int a1, .int a2] (fun U => U.heap.size = sz ∧ va_P D vwCl (cW cI cZ cP cF q S) U.heap ∧ zE D cI cZ cP cF U ∧ va_D (fun _ => True) (cW cI cZ cP cF q S))) (va_Qi (fun r S' => Post S' r) (fun (S' : CST) t => va_P D vwCl (cW cI cZ cP cF q S') t.heap ∧ va_D (va_A (cW cI cZ cP cF q S) sz) (cW cI cZ cP cF q S')) (va_A (cW cI cZ cP cF q S) sz)) 0 0 (va_A (cW cI cZ cP cF q S) sz) := by
  unfold wp_X8_append at h
  refine Met.ofW (cc := cX8_append) (maxL := 3) (ret := (some .int)) (by decide) rfl ?_
  intro p e s m args below meth c s₁ B hml hv
  obtain ⟨rfl, hsz, hP, hE, hD0⟩ := hv
  have hx := B.exec
  have hb := B.bytes
  have hr := B.returns
  have hts := atoms_spec (ws := zw_zd_X8_append) B.pre
  have hown : s.vm.findClass RX8 = some m.cls := findClass_of_methodNamed B.named
  have hlocks := B.notSynchronized
  have hK := hE.k
  subst hsz
  have hD := hD0.self (sz := s.heap.size)
  generalize hAe : va_A (cW cI cZ cP cF q S) s.heap.size = A at hD ⊢
  have hA : ∀ q : Nat, s.heap.size ≤ q → A q := fun q h => by rw [← hAe]; exact Or.inr h
  have hl := lv_entry ([.ref (q 24 i), .int a1, .int a2]) (n := 3) (Nat.le_of_ble_eq_true rfl)
  rw [lg_entry_eq]
  generalize (lg_sl ([.ref (q 24 i), .int a1, .int a2]) ++ List.replicate (3 - (lg_sl ([.ref (q 24 i), .int a1, .int a2])).length) Slot.unset).toArray = ls at hl ⊢
  have hl : lv_has ls 3 [(0, .ref (q 24 i)), (1, .int a1), (2, .int a2)] := hl
  have key : ∀ (H : Heap) (locs : List Loc), va_P D vwCl (cW cI cZ cP cF q S) H → va_S A s.heap H locs → W p l e (headSpec zw_zd_X8_append ({ frames := 0, cells := 0, slots := 0, locals := 0 })).room s m ([.ref (q 24 i), .int a1, .int a2] : List Value).toArray below meth c H locs 0 0 (MQ below (va_Qi (fun r S' => Post S' r) (fun (S' : CST) t => va_P D vwCl (cW cI cZ cP cF q S') t.heap ∧ va_D A (cW cI cZ cP cF q S')) A) ([.ref (q 24 i), .int a1, .int a2] : List Value).toArray s 0 0 A) (F0 m 0 ls []) := by
    intro H locs hP hS
    refine lv_aload_n hx hb dX8_append_0 rfl (lv_at hl 0 rfl) ?_
    have hi_1 := h.1
    have h := h.2
    obtain ⟨p_1, hp_1⟩ := cget_24 cI cZ cP cF q S hi_1
    refine va_get (D := D) (ci := 8) (v := .int (cv S 247 i 0)) (C := RX8) (T := TX8) (N := 10) hx hb hts (fun _ h => List.mem_cons_of_mem _ (List.mem_append_right _ h)) hown hK hP p_1 hp_1 rfl 7 (by decide) (hts (.fieldLink RX8 41 "TemplateForge$Program" "length" "I") (List.mem_of_getElem? (i := 1) rfl)) (fun _ h9 => h9) rfl dX8_append_1 ?_
    refine lv_bipush (v := 60) hx hb dX8_append_4 (by decide) ?_
    refine lv_icmp_lt (tgt := 12) hx hb dX8_append_6 (by decide) (fun c_2 => ?_) (fun c_2 => ?_)
    · have h := h.1 c_2
      refine lv_aload_n hx hb dX8_append_12 rfl (lv_at hl 0 rfl) ?_
      have hi_3 := h.1
      have h := h.2
      obtain ⟨p_3, hp_3⟩ := cget_24 cI cZ cP cF q S hi_3
      refine va_get (D := D) (ci := 8) (v := .ref (q 25 i)) (C := RX8) (T := TX8) (N := 10) hx hb hts (fun _ h => List.mem_cons_of_mem _ (List.mem_append_right _ h)) hown hK hP p_3 hp_3 rfl 4 (by decide) (hts (.fieldLink RX8 18 "TemplateForge$Program" "ops" "[I") (List.mem_of_getElem? (i := 2) rfl)) (fun _ h9 => h9) rfl dX8_append_13 ?_
      refine lv_aload_n hx hb dX8_append_16 rfl (lv_at hl 0 rfl) ?_
      have hi_4 := h.1
      have h := h.2
      obtain ⟨p_4, hp_4⟩ := cget_24 cI cZ cP cF q S hi_4
      refine va_get (D := D) (ci := 8) (v := .int (cv S 247 i 0)) (C := RX8) (T := TX8) (N := 10) hx hb hts (fun _ h => List.mem_cons_of_mem _ (List.mem_append_right _ h)) hown hK hP p_4 hp_4 rfl 7 (by decide) (hts (.fieldLink RX8 41 "TemplateForge$Program" "length" "I") (List.mem_of_getElem? (i := 1) rfl)) (fun _ h9 => h9) rfl dX8_append_17 ?_
      refine lv_iload_n hx hb dX8_append_20 rfl (lv_at hl 1 rfl) ?_
      have hi_5 := h.1
      have h := h.2
      obtain ⟨p_5, hp_5⟩ := cget_25 cI cZ cP cF q S hi_5
      have hin_5 := h.1
      have h := h.2
      have hD0_5 := hD
      refine va_iast hx hb hK hP hD hS p_5 0 hp_5 rfl hin_5 dX8_append_21 (fun H locs hP hD hS => ?_)
      obtain ⟨S6, eS6⟩ : ∃ z, z = cs S 250 i (upd (cv S 250 i) (cv S 247 i 0 : Int32).toNatClampNeg a1) := ⟨_, rfl⟩
      have hP : va_P D vwCl (cW cI cZ cP cF q S6) H := by rw [eS6, ← cW_put (k := 250) (κ := 25) (i := i) (g := (upd (cv S 250 i) (cv S 247 i 0 : Int32).toNatClampNeg a1)) rfl hD0_5 hp_5 hi_5, cput_250]; exact hP
      have hD : va_D A (cW cI cZ cP cF q S6) := by rw [eS6, ← cW_put (k := 250) (κ := 25) (i := i) (g := (upd (cv S 250 i) (cv S 247 i 0 : Int32).toNatClampNeg a1)) rfl hD0_5 hp_5 hi_5, cput_250]; exact hD
      have h := h S6 eS6
      refine lv_aload_n hx hb dX8_append_22 rfl (lv_at hl 0 rfl) ?_
      have hi_7 := h.1
      have h := h.2
      obtain ⟨p_7, hp_7⟩ := cget_24 cI cZ cP cF q S6 hi_7
      refine va_get (D := D) (ci := 8) (v := .ref (q 26 i)) (C := RX8) (T := TX8) (N := 10) hx hb hts (fun _ h => List.mem_cons_of_mem _ (List.mem_append_right _ h)) hown hK hP p_7 hp_7 rfl 5 (by decide) (hts (.fieldLink RX8 22 "TemplateForge$Program" "xs" "[I") (List.mem_of_getElem? (i := 3) rfl)) (fun _ h9 => h9) rfl dX8_append_23 ?_
      refine lv_aload_n hx hb dX8_append_26 rfl (lv_at hl 0 rfl) ?_
      have hi_8 := h.1
      have h := h.2
      obtain ⟨p_8, hp_8⟩ := cget_24 cI cZ cP cF q S6 hi_8
      refine va_get (D := D) (ci := 8) (v := .int (cv S6 247 i 0)) (C := RX8) (T := TX8) (N := 10) hx hb hts (fun _ h => List.mem_cons_of_mem _ (List.mem_append_right _ h)) hown hK hP p_8 hp_8 rfl 7 (by decide) (hts (.fieldLink RX8 41 "TemplateForge$Program" "length" "I") (List.mem_of_getElem? (i := 1) rfl)) (fun _ h9 => h9) rfl dX8_append_27 ?_
      refine lv_iload_n hx hb dX8_append_30 rfl (lv_at hl 2 rfl) ?_
      have hi_9 := h.1
      have h := h.2
      obtain ⟨p_9, hp_9⟩ := cget_26 cI cZ cP cF q S6 hi_9
      have hin_9 := h.1
      have h := h.2
      have hD0_9 := hD
      refine va_iast hx hb hK hP hD hS p_9 0 hp_9 rfl hin_9 dX8_append_31 (fun H locs hP hD hS => ?_)
      obtain ⟨S10, eS10⟩ : ∃ z, z = cs S6 260 i (upd (cv S6 260 i) (cv S6 247 i 0 : Int32).toNatClampNeg a2) := ⟨_, rfl⟩
      have hP : va_P D vwCl (cW cI cZ cP cF q S10) H := by rw [eS10, ← cW_put (k := 260) (κ := 26) (i := i) (g := (upd (cv S6 260 i) (cv S6 247 i 0 : Int32).toNatClampNeg a2)) rfl hD0_9 hp_9 hi_9, cput_260]; exact hP
      have hD : va_D A (cW cI cZ cP cF q S10) := by rw [eS10, ← cW_put (k := 260) (κ := 26) (i := i) (g := (upd (cv S6 260 i) (cv S6 247 i 0 : Int32).toNatClampNeg a2)) rfl hD0_9 hp_9 hi_9, cput_260]; exact hD
      have h := h S10 eS10
      refine lv_aload_n hx hb dX8_append_32 rfl (lv_at hl 0 rfl) ?_
      refine lv_dup hx hb dX8_append_33 rfl ?_
      have hi_11 := h.1
      have h := h.2
      obtain ⟨p_11, hp_11⟩ := cget_24 cI cZ cP cF q S10 hi_11
      refine va_get (D := D) (ci := 8) (v := .int (cv S10 247 i 0)) (C := RX8) (T := TX8) (N := 10) hx hb hts (fun _ h => List.mem_cons_of_mem _ (List.mem_append_right _ h)) hown hK hP p_11 hp_11 rfl 7 (by decide) (hts (.fieldLink RX8 41 "TemplateForge$Program" "length" "I") (List.mem_of_getElem? (i := 1) rfl)) (fun _ h9 => h9) rfl dX8_append_34 ?_
      refine lv_iconst (v := 1) hx hb dX8_append_37 (by decide) ?_
      refine lv_iadd hx hb dX8_append_38 ?_
      have hi_12 := h.1
      have h := h.2
      obtain ⟨p_12, hp_12⟩ := cget_24 cI cZ cP cF q S10 hi_12
      have hD0_12 := hD
      refine va_put (D := D) (ci := 8) (v := .int ((cv S10 247 i 0) + 1)) (ty := .int) (C := RX8) (T := TX8) (N := 10) hx hb hts (fun _ h => List.mem_cons_of_mem _ (List.mem_append_right _ h)) tyX8 tyX8_ok nmX8 hown hK hP hD hS p_12 hp_12 rfl 7 (by decide) (hts (.fieldLink RX8 41 "TemplateForge$Program" "length" "I") (List.mem_of_getElem? (i := 1) rfl)) (fun _ h9 => h9) rfl (by decide +kernel) rfl rfl (Nat.le_of_ble_eq_true rfl) dX8_append_39 (fun H locs hP hD hS => ?_)
      obtain ⟨S13, eS13⟩ : ∃ z, z = cs S10 247 i (fun _ => (cv S10 247 i 0) + 1) := ⟨_, rfl⟩
      have hP : va_P D vwCl (cW cI cZ cP cF q S13) H := by rw [eS13, ← cW_put (k := 247) (κ := 24) (i := i) (g := (fun _ => (cv S10 247 i 0) + 1)) rfl hD0_12 hp_12 hi_12, cput_247]; exact hP
      have hD : va_D A (cW cI cZ cP cF q S13) := by rw [eS13, ← cW_put (k := 247) (κ := 24) (i := i) (g := (fun _ => (cv S10 247 i 0) + 1)) rfl hD0_12 hp_12 hi_12, cput_247]; exact hD
      have h := h S13 eS13
      refine lv_aload_n hx hb dX8_append_42 rfl (lv_at hl 0 rfl) ?_
      have hi_14 := h.1
      have h := h.2
      obtain ⟨p_14, hp_14⟩ := cget_24 cI cZ cP cF q S13 hi_14
      refine va_get (D := D) (ci := 8) (v := .int (cv S13 247 i 0)) (C := RX8) (T := TX8) (N := 10) hx hb hts (fun _ h => List.mem_cons_of_mem _ (List.mem_append_right _ h)) hown hK hP p_14 hp_14 rfl 7 (by decide) (hts (.fieldLink RX8 41 "TemplateForge$Program" "length" "I") (List.mem_of_getElem? (i := 1) rfl)) (fun _ h9 => h9) rfl dX8_append_43 ?_
      refine lv_iconst (v := 1) hx hb dX8_append_46 (by decide) ?_
      refine lv_isub hx hb dX8_append_47 ?_
      exact W.iret (v := (cv S13 247 i 0) - 1) hx hb hr (fun t ht hW => ⟨⟨_, S13, rfl, h, by rw [ht]; exact hP, hD⟩, hS.F ht⟩) hS.2.2 dX8_append_48
    · have h := h.2 c_2
      refine lv_bipush (v := (-4)) hx hb dX8_append_9 (by decide) ?_
      exact W.iret (v := (-4)) hx hb hr (fun t ht hW => ⟨⟨_, S, rfl, h, by rw [ht]; exact hP, hD⟩, hS.F ht⟩) hS.2.2 dX8_append_11
  exact key _ _ hP va_S.rf

def wp_X9_know (S : CST) (a1 : Int32) (a2 : Int32) (Post : CST → Prop) : Prop :=
  (((a1 : Int32) < 0) → (Post S)) ∧ ((¬ ((a1 : Int32) < 0)) → (((15 ≤ a1) → (Post S)) ∧ ((¬ (15 ≤ a1)) → (vp_in a1 15 ∧ (∀ S5 : CST, S5 = cs S 160 0 (upd (cv S 160 0) (a1 : Int32).toNatClampNeg (vp_nar .boolean 1)) → (vp_in a1 15 ∧ (∀ S8 : CST, S8 = cs S5 170 0 (upd (cv S5 170 0) (a1 : Int32).toNatClampNeg a2) → (Post S8))))))))
def zw_zd_X9_know_w0 : List Cond := [.fieldLink RX9 9 "TemplateForge$Smith" "known" "[Z", .fieldLink RX9 15 "TemplateForge$Smith" "worth" "[I"]
def zw_zd_X9_know : List Cond := .code yX9_know cX9_know 3 none :: ((zw_zd_X9_know_w0) ++ wsX90)
set_option maxHeartbeats 16000000 in
set_option maxRecDepth 100000 in
theorem zd_X9_know (l : Launch) (D : va_G) (cI cZ cP cF : Nat) (q : Nat → Nat → Nat) (S : CST) (a1 : Int32) (a2 : Int32) (sz : Nat) (Post : CST → Prop) (h : wp_X9_know S a1 a2 Post) : Met l yX9_know zw_zd_X9_know ({ frames := 0, cells := 0, slots := 0, locals := 0 }) (va_Pc [.ref (q 15 0), .int a1, .int a2] (fun U => U.heap.size = sz ∧ va_P D vwCl (cW cI cZ cP cF q S) U.heap ∧ zE D cI cZ cP cF U ∧ va_D (fun _ => True) (cW cI cZ cP cF q S))) (va_Qv (fun S' => Post S') (fun (S' : CST) t => va_P D vwCl (cW cI cZ cP cF q S') t.heap ∧ va_D (va_A (cW cI cZ cP cF q S) sz) (cW cI cZ cP cF q S')) (va_A (cW cI cZ cP cF q S) sz)) 0 0 (va_A (cW cI cZ cP cF q S) sz) := by
  unfold wp_X9_know at h
  refine Met.ofW (cc := cX9_know) (maxL := 3) (ret := none) (by decide) rfl ?_
  intro p e s m args below meth c s₁ B hml hv
  obtain ⟨rfl, hsz, hP, hE, hD0⟩ := hv
  have hx := B.exec
  have hb := B.bytes
  have hr := B.returns
  have hts := atoms_spec (ws := zw_zd_X9_know) B.pre
  have hown : s.vm.findClass RX9 = some m.cls := findClass_of_methodNamed B.named
  have hlocks := B.notSynchronized
  have hK := hE.k
  subst hsz
  have hD := hD0.self (sz := s.heap.size)
  generalize hAe : va_A (cW cI cZ cP cF q S) s.heap.size = A at hD ⊢
  have hA : ∀ q : Nat, s.heap.size ≤ q → A q := fun q h => by rw [← hAe]; exact Or.inr h
  have hl := lv_entry ([.ref (q 15 0), .int a1, .int a2]) (n := 3) (Nat.le_of_ble_eq_true rfl)
  rw [lg_entry_eq]
  generalize (lg_sl ([.ref (q 15 0), .int a1, .int a2]) ++ List.replicate (3 - (lg_sl ([.ref (q 15 0), .int a1, .int a2])).length) Slot.unset).toArray = ls at hl ⊢
  have hl : lv_has ls 3 [(0, .ref (q 15 0)), (1, .int a1), (2, .int a2)] := hl
  have key : ∀ (H : Heap) (locs : List Loc), va_P D vwCl (cW cI cZ cP cF q S) H → va_S A s.heap H locs → W p l e (headSpec zw_zd_X9_know ({ frames := 0, cells := 0, slots := 0, locals := 0 })).room s m ([.ref (q 15 0), .int a1, .int a2] : List Value).toArray below meth c H locs 0 0 (MQ below (va_Qv (fun S' => Post S') (fun (S' : CST) t => va_P D vwCl (cW cI cZ cP cF q S') t.heap ∧ va_D A (cW cI cZ cP cF q S')) A) ([.ref (q 15 0), .int a1, .int a2] : List Value).toArray s 0 0 A) (F0 m 0 ls []) := by
    intro H locs hP hS
    refine lv_iload_n hx hb dX9_know_0 rfl (lv_at hl 1 rfl) ?_
    refine lv_if_lt (tgt := 24) hx hb dX9_know_1 (by decide) (fun c_1 => ?_) (fun c_1 => ?_)
    · have h := h.1 c_1
      exact W.vret hx hb hr (fun t ht hW => ⟨⟨S, rfl, h, by rw [ht]; exact hP, hD⟩, hS.F ht⟩) hS.2.2 dX9_know_24
    · have h := h.2 c_1
      refine lv_iload_n hx hb dX9_know_4 rfl (lv_at hl 1 rfl) ?_
      refine lv_bipush (v := 15) hx hb dX9_know_5 (by decide) ?_
      refine lv_icmp_ge (tgt := 24) hx hb dX9_know_7 (by decide) (fun c_2 => ?_) (fun c_2 => ?_)
      · have h := h.1 c_2
        exact W.vret hx hb hr (fun t ht hW => ⟨⟨S, rfl, h, by rw [ht]; exact hP, hD⟩, hS.F ht⟩) hS.2.2 dX9_know_24
      · have h := h.2 c_2
        refine lv_aload_n hx hb dX9_know_10 rfl (lv_at hl 0 rfl) ?_
        obtain ⟨p_3, hp_3⟩ := cget_15 cI cZ cP cF q S
        have hi_3 : cin S 15 0 := Or.inl ⟨by decide, rfl⟩
        refine va_get (D := D) (ci := 9) (v := .ref (q 16 0)) (C := RX9) (T := TX9) (N := 5) hx hb hts (fun _ h => List.mem_cons_of_mem _ (List.mem_append_right _ h)) hown hK hP p_3 hp_3 rfl 1 (by decide) (hts (.fieldLink RX9 9 "TemplateForge$Smith" "known" "[Z") (List.mem_of_getElem? (i := 1) rfl)) (fun _ h9 => h9) rfl dX9_know_11 ?_
        refine lv_iload_n hx hb dX9_know_14 rfl (lv_at hl 1 rfl) ?_
        refine lv_iconst (v := 1) hx hb dX9_know_15 (by decide) ?_
        obtain ⟨p_4, hp_4⟩ := cget_16 cI cZ cP cF q S
        have hi_4 : cin S 16 0 := Or.inl ⟨by decide, rfl⟩
        have hin_4 := h.1
        have h := h.2
        have hD0_4 := hD
        refine va_zast hx hb hK hP hD hS p_4 1 hp_4 rfl hin_4 dX9_know_16 (fun H locs hP hD hS => ?_)
        obtain ⟨S5, eS5⟩ : ∃ z, z = cs S 160 0 (upd (cv S 160 0) (a1 : Int32).toNatClampNeg (vp_nar .boolean 1)) := ⟨_, rfl⟩
        have hP : va_P D vwCl (cW cI cZ cP cF q S5) H := by rw [eS5, ← cW_put (k := 160) (κ := 16) (i := 0) (g := (upd (cv S 160 0) (a1 : Int32).toNatClampNeg (vp_nar .boolean 1))) rfl hD0_4 hp_4 hi_4, cput_160]; exact hP
        have hD : va_D A (cW cI cZ cP cF q S5) := by rw [eS5, ← cW_put (k := 160) (κ := 16) (i := 0) (g := (upd (cv S 160 0) (a1 : Int32).toNatClampNeg (vp_nar .boolean 1))) rfl hD0_4 hp_4 hi_4, cput_160]; exact hD
        have h := h S5 eS5
        refine lv_aload_n hx hb dX9_know_17 rfl (lv_at hl 0 rfl) ?_
        obtain ⟨p_6, hp_6⟩ := cget_15 cI cZ cP cF q S5
        have hi_6 : cin S5 15 0 := Or.inl ⟨by decide, rfl⟩
        refine va_get (D := D) (ci := 9) (v := .ref (q 17 0)) (C := RX9) (T := TX9) (N := 5) hx hb hts (fun _ h => List.mem_cons_of_mem _ (List.mem_append_right _ h)) hown hK hP p_6 hp_6 rfl 2 (by decide) (hts (.fieldLink RX9 15 "TemplateForge$Smith" "worth" "[I") (List.mem_of_getElem? (i := 2) rfl)) (fun _ h9 => h9) rfl dX9_know_18 ?_
        refine lv_iload_n hx hb dX9_know_21 rfl (lv_at hl 1 rfl) ?_
        refine lv_iload_n hx hb dX9_know_22 rfl (lv_at hl 2 rfl) ?_
        obtain ⟨p_7, hp_7⟩ := cget_17 cI cZ cP cF q S5
        have hi_7 : cin S5 17 0 := Or.inl ⟨by decide, rfl⟩
        have hin_7 := h.1
        have h := h.2
        have hD0_7 := hD
        refine va_iast hx hb hK hP hD hS p_7 0 hp_7 rfl hin_7 dX9_know_23 (fun H locs hP hD hS => ?_)
        obtain ⟨S8, eS8⟩ : ∃ z, z = cs S5 170 0 (upd (cv S5 170 0) (a1 : Int32).toNatClampNeg a2) := ⟨_, rfl⟩
        have hP : va_P D vwCl (cW cI cZ cP cF q S8) H := by rw [eS8, ← cW_put (k := 170) (κ := 17) (i := 0) (g := (upd (cv S5 170 0) (a1 : Int32).toNatClampNeg a2)) rfl hD0_7 hp_7 hi_7, cput_170]; exact hP
        have hD : va_D A (cW cI cZ cP cF q S8) := by rw [eS8, ← cW_put (k := 170) (κ := 17) (i := 0) (g := (upd (cv S5 170 0) (a1 : Int32).toNatClampNeg a2)) rfl hD0_7 hp_7 hi_7, cput_170]; exact hD
        have h := h S8 eS8
        exact W.vret hx hb hr (fun t ht hW => ⟨⟨S8, rfl, h, by rw [ht]; exact hP, hD⟩, hS.F ht⟩) hS.2.2 dX9_know_24
  exact key _ _ hP va_S.rf

def wp_X10_noteTrap (S : CST) (a1 : Int32) (a2 : Int32) (a3 : Int32) (a4 : Int32) (Post : CST → Prop) : Prop :=
  vp_in 0 4 ∧ (∀ S3 : CST, S3 = cs S 210 0 (upd (cv S 210 0) (0 : Int32).toNatClampNeg a1) → (vp_in 1 4 ∧ (∀ S6 : CST, S6 = cs S3 210 0 (upd (cv S3 210 0) (1 : Int32).toNatClampNeg a2) → (vp_in 2 4 ∧ (∀ S9 : CST, S9 = cs S6 210 0 (upd (cv S6 210 0) (2 : Int32).toNatClampNeg a3) → (vp_in 3 4 ∧ (∀ S12 : CST, S12 = cs S9 210 0 (upd (cv S9 210 0) (3 : Int32).toNatClampNeg a4) → (Post S12))))))))
def zw_zd_X10_noteTrap_w0 : List Cond := [.fieldLink RX10 9 "TemplateForge$Tally" "trap" "[I"]
def zw_zd_X10_noteTrap : List Cond := .code yX10_noteTrap cX10_noteTrap 5 none :: ((zw_zd_X10_noteTrap_w0) ++ wsX100)
set_option maxHeartbeats 16000000 in
set_option maxRecDepth 100000 in
theorem zd_X10_noteTrap (l : Launch) (D : va_G) (cI cZ cP cF : Nat) (q : Nat → Nat → Nat) (S : CST) (a1 : Int32) (a2 : Int32) (a3 : Int32) (a4 : Int32) (sz : Nat) (Post : CST → Prop) (h : wp_X10_noteTrap S a1 a2 a3 a4 Post) : Met l yX10_noteTrap zw_zd_X10_noteTrap ({ frames := 0, cells := 0, slots := 0, locals := 0 }) (va_Pc [.ref (q 20 0), .int a1, .int a2, .int a3, .int a4] (fun U => U.heap.size = sz ∧ va_P D vwCl (cW cI cZ cP cF q S) U.heap ∧ zE D cI cZ cP cF U ∧ va_D (fun _ => True) (cW cI cZ cP cF q S))) (va_Qv (fun S' => Post S') (fun (S' : CST) t => va_P D vwCl (cW cI cZ cP cF q S') t.heap ∧ va_D (va_A (cW cI cZ cP cF q S) sz) (cW cI cZ cP cF q S')) (va_A (cW cI cZ cP cF q S) sz)) 0 0 (va_A (cW cI cZ cP cF q S) sz) := by
  unfold wp_X10_noteTrap at h
  refine Met.ofW (cc := cX10_noteTrap) (maxL := 5) (ret := none) (by decide) rfl ?_
  intro p e s m args below meth c s₁ B hml hv
  obtain ⟨rfl, hsz, hP, hE, hD0⟩ := hv
  have hx := B.exec
  have hb := B.bytes
  have hr := B.returns
  have hts := atoms_spec (ws := zw_zd_X10_noteTrap) B.pre
  have hown : s.vm.findClass RX10 = some m.cls := findClass_of_methodNamed B.named
  have hlocks := B.notSynchronized
  have hK := hE.k
  subst hsz
  have hD := hD0.self (sz := s.heap.size)
  generalize hAe : va_A (cW cI cZ cP cF q S) s.heap.size = A at hD ⊢
  have hA : ∀ q : Nat, s.heap.size ≤ q → A q := fun q h => by rw [← hAe]; exact Or.inr h
  have hl := lv_entry ([.ref (q 20 0), .int a1, .int a2, .int a3, .int a4]) (n := 5) (Nat.le_of_ble_eq_true rfl)
  rw [lg_entry_eq]
  generalize (lg_sl ([.ref (q 20 0), .int a1, .int a2, .int a3, .int a4]) ++ List.replicate (5 - (lg_sl ([.ref (q 20 0), .int a1, .int a2, .int a3, .int a4])).length) Slot.unset).toArray = ls at hl ⊢
  have hl : lv_has ls 5 [(0, .ref (q 20 0)), (1, .int a1), (2, .int a2), (3, .int a3), (4, .int a4)] := hl
  have key : ∀ (H : Heap) (locs : List Loc), va_P D vwCl (cW cI cZ cP cF q S) H → va_S A s.heap H locs → W p l e (headSpec zw_zd_X10_noteTrap ({ frames := 0, cells := 0, slots := 0, locals := 0 })).room s m ([.ref (q 20 0), .int a1, .int a2, .int a3, .int a4] : List Value).toArray below meth c H locs 0 0 (MQ below (va_Qv (fun S' => Post S') (fun (S' : CST) t => va_P D vwCl (cW cI cZ cP cF q S') t.heap ∧ va_D A (cW cI cZ cP cF q S')) A) ([.ref (q 20 0), .int a1, .int a2, .int a3, .int a4] : List Value).toArray s 0 0 A) (F0 m 0 ls []) := by
    intro H locs hP hS
    refine lv_aload_n hx hb dX10_noteTrap_0 rfl (lv_at hl 0 rfl) ?_
    obtain ⟨p_1, hp_1⟩ := cget_20 cI cZ cP cF q S
    have hi_1 : cin S 20 0 := Or.inl ⟨by decide, rfl⟩
    refine va_get (D := D) (ci := 10) (v := .ref (q 21 0)) (C := RX10) (T := TX10) (N := 7) hx hb hts (fun _ h => List.mem_cons_of_mem _ (List.mem_append_right _ h)) hown hK hP p_1 hp_1 rfl 6 (by decide) (hts (.fieldLink RX10 9 "TemplateForge$Tally" "trap" "[I") (List.mem_of_getElem? (i := 1) rfl)) (fun _ h9 => h9) rfl dX10_noteTrap_1 ?_
    refine lv_iconst (v := 0) hx hb dX10_noteTrap_4 (by decide) ?_
    refine lv_iload_n hx hb dX10_noteTrap_5 rfl (lv_at hl 1 rfl) ?_
    obtain ⟨p_2, hp_2⟩ := cget_21 cI cZ cP cF q S
    have hi_2 : cin S 21 0 := Or.inl ⟨by decide, rfl⟩
    have hin_2 := h.1
    have h := h.2
    have hD0_2 := hD
    refine va_iast hx hb hK hP hD hS p_2 0 hp_2 rfl hin_2 dX10_noteTrap_6 (fun H locs hP hD hS => ?_)
    obtain ⟨S3, eS3⟩ : ∃ z, z = cs S 210 0 (upd (cv S 210 0) (0 : Int32).toNatClampNeg a1) := ⟨_, rfl⟩
    have hP : va_P D vwCl (cW cI cZ cP cF q S3) H := by rw [eS3, ← cW_put (k := 210) (κ := 21) (i := 0) (g := (upd (cv S 210 0) (0 : Int32).toNatClampNeg a1)) rfl hD0_2 hp_2 hi_2, cput_210]; exact hP
    have hD : va_D A (cW cI cZ cP cF q S3) := by rw [eS3, ← cW_put (k := 210) (κ := 21) (i := 0) (g := (upd (cv S 210 0) (0 : Int32).toNatClampNeg a1)) rfl hD0_2 hp_2 hi_2, cput_210]; exact hD
    have h := h S3 eS3
    refine lv_aload_n hx hb dX10_noteTrap_7 rfl (lv_at hl 0 rfl) ?_
    obtain ⟨p_4, hp_4⟩ := cget_20 cI cZ cP cF q S3
    have hi_4 : cin S3 20 0 := Or.inl ⟨by decide, rfl⟩
    refine va_get (D := D) (ci := 10) (v := .ref (q 21 0)) (C := RX10) (T := TX10) (N := 7) hx hb hts (fun _ h => List.mem_cons_of_mem _ (List.mem_append_right _ h)) hown hK hP p_4 hp_4 rfl 6 (by decide) (hts (.fieldLink RX10 9 "TemplateForge$Tally" "trap" "[I") (List.mem_of_getElem? (i := 1) rfl)) (fun _ h9 => h9) rfl dX10_noteTrap_8 ?_
    refine lv_iconst (v := 1) hx hb dX10_noteTrap_11 (by decide) ?_
    refine lv_iload_n hx hb dX10_noteTrap_12 rfl (lv_at hl 2 rfl) ?_
    obtain ⟨p_5, hp_5⟩ := cget_21 cI cZ cP cF q S3
    have hi_5 : cin S3 21 0 := Or.inl ⟨by decide, rfl⟩
    have hin_5 := h.1
    have h := h.2
    have hD0_5 := hD
    refine va_iast hx hb hK hP hD hS p_5 0 hp_5 rfl hin_5 dX10_noteTrap_13 (fun H locs hP hD hS => ?_)
    obtain ⟨S6, eS6⟩ : ∃ z, z = cs S3 210 0 (upd (cv S3 210 0) (1 : Int32).toNatClampNeg a2) := ⟨_, rfl⟩
    have hP : va_P D vwCl (cW cI cZ cP cF q S6) H := by rw [eS6, ← cW_put (k := 210) (κ := 21) (i := 0) (g := (upd (cv S3 210 0) (1 : Int32).toNatClampNeg a2)) rfl hD0_5 hp_5 hi_5, cput_210]; exact hP
    have hD : va_D A (cW cI cZ cP cF q S6) := by rw [eS6, ← cW_put (k := 210) (κ := 21) (i := 0) (g := (upd (cv S3 210 0) (1 : Int32).toNatClampNeg a2)) rfl hD0_5 hp_5 hi_5, cput_210]; exact hD
    have h := h S6 eS6
    refine lv_aload_n hx hb dX10_noteTrap_14 rfl (lv_at hl 0 rfl) ?_
    obtain ⟨p_7, hp_7⟩ := cget_20 cI cZ cP cF q S6
    have hi_7 : cin S6 20 0 := Or.inl ⟨by decide, rfl⟩
    refine va_get (D := D) (ci := 10) (v := .ref (q 21 0)) (C := RX10) (T := TX10) (N := 7) hx hb hts (fun _ h => List.mem_cons_of_mem _ (List.mem_append_right _ h)) hown hK hP p_7 hp_7 rfl 6 (by decide) (hts (.fieldLink RX10 9 "TemplateForge$Tally" "trap" "[I") (List.mem_of_getElem? (i := 1) rfl)) (fun _ h9 => h9) rfl dX10_noteTrap_15 ?_
    refine lv_iconst (v := 2) hx hb dX10_noteTrap_18 (by decide) ?_
    refine lv_iload_n hx hb dX10_noteTrap_19 rfl (lv_at hl 3 rfl) ?_
    obtain ⟨p_8, hp_8⟩ := cget_21 cI cZ cP cF q S6
    have hi_8 : cin S6 21 0 := Or.inl ⟨by decide, rfl⟩
    have hin_8 := h.1
    have h := h.2
    have hD0_8 := hD
    refine va_iast hx hb hK hP hD hS p_8 0 hp_8 rfl hin_8 dX10_noteTrap_20 (fun H locs hP hD hS => ?_)
    obtain ⟨S9, eS9⟩ : ∃ z, z = cs S6 210 0 (upd (cv S6 210 0) (2 : Int32).toNatClampNeg a3) := ⟨_, rfl⟩
    have hP : va_P D vwCl (cW cI cZ cP cF q S9) H := by rw [eS9, ← cW_put (k := 210) (κ := 21) (i := 0) (g := (upd (cv S6 210 0) (2 : Int32).toNatClampNeg a3)) rfl hD0_8 hp_8 hi_8, cput_210]; exact hP
    have hD : va_D A (cW cI cZ cP cF q S9) := by rw [eS9, ← cW_put (k := 210) (κ := 21) (i := 0) (g := (upd (cv S6 210 0) (2 : Int32).toNatClampNeg a3)) rfl hD0_8 hp_8 hi_8, cput_210]; exact hD
    have h := h S9 eS9
    refine lv_aload_n hx hb dX10_noteTrap_21 rfl (lv_at hl 0 rfl) ?_
    obtain ⟨p_10, hp_10⟩ := cget_20 cI cZ cP cF q S9
    have hi_10 : cin S9 20 0 := Or.inl ⟨by decide, rfl⟩
    refine va_get (D := D) (ci := 10) (v := .ref (q 21 0)) (C := RX10) (T := TX10) (N := 7) hx hb hts (fun _ h => List.mem_cons_of_mem _ (List.mem_append_right _ h)) hown hK hP p_10 hp_10 rfl 6 (by decide) (hts (.fieldLink RX10 9 "TemplateForge$Tally" "trap" "[I") (List.mem_of_getElem? (i := 1) rfl)) (fun _ h9 => h9) rfl dX10_noteTrap_22 ?_
    refine lv_iconst (v := 3) hx hb dX10_noteTrap_25 (by decide) ?_
    refine lv_iload hx hb dX10_noteTrap_26 (lv_at hl 4 rfl) ?_
    obtain ⟨p_11, hp_11⟩ := cget_21 cI cZ cP cF q S9
    have hi_11 : cin S9 21 0 := Or.inl ⟨by decide, rfl⟩
    have hin_11 := h.1
    have h := h.2
    have hD0_11 := hD
    refine va_iast hx hb hK hP hD hS p_11 0 hp_11 rfl hin_11 dX10_noteTrap_28 (fun H locs hP hD hS => ?_)
    obtain ⟨S12, eS12⟩ : ∃ z, z = cs S9 210 0 (upd (cv S9 210 0) (3 : Int32).toNatClampNeg a4) := ⟨_, rfl⟩
    have hP : va_P D vwCl (cW cI cZ cP cF q S12) H := by rw [eS12, ← cW_put (k := 210) (κ := 21) (i := 0) (g := (upd (cv S9 210 0) (3 : Int32).toNatClampNeg a4)) rfl hD0_11 hp_11 hi_11, cput_210]; exact hP
    have hD : va_D A (cW cI cZ cP cF q S12) := by rw [eS12, ← cW_put (k := 210) (κ := 21) (i := 0) (g := (upd (cv S9 210 0) (3 : Int32).toNatClampNeg a4)) rfl hD0_11 hp_11 hi_11, cput_210]; exact hD
    have h := h S12 eS12
    exact W.vret hx hb hr (fun t ht hW => ⟨⟨S12, rfl, h, by rw [ht]; exact hP, hD⟩, hS.F ht⟩) hS.2.2 dX10_noteTrap_29
  exact key _ _ hP va_S.rf

def wp_X7_stepOn (S : CST) (Post : CST → Prop) : Prop :=
  ∀ S4 : CST, S4 = cs S 201 0 (fun _ => (cv S 201 0 0) + 1) → (((((cv S4 201 0 0) : Int32) ≤ 1500) → (Post S4)) ∧ ((¬ (((cv S4 201 0 0) : Int32) ≤ 1500)) → (∀ S9 : CST, S9 = cs S4 127 0 (fun _ => 3) → (Post S9))))
def zw_zd_X7_stepOn_w0 : List Cond := [.fieldLink RX7 12 "TemplateForge$Machine" "tally" "LTemplateForge$Tally;", .fieldLink RX7 150 "TemplateForge$Tally" "steps" "I", .fieldLink RX7 53 "TemplateForge$Machine" "ending" "I"]
def zw_zd_X7_stepOn : List Cond := .code yX7_stepOn cX7_stepOn 1 none :: ((zw_zd_X7_stepOn_w0) ++ wsX70 ++ wsX100)
set_option maxHeartbeats 16000000 in
set_option maxRecDepth 100000 in
theorem zd_X7_stepOn (l : Launch) (D : va_G) (cI cZ cP cF : Nat) (q : Nat → Nat → Nat) (S : CST) (sz : Nat) (Post : CST → Prop) (h : wp_X7_stepOn S Post) : Met l yX7_stepOn zw_zd_X7_stepOn ({ frames := 0, cells := 0, slots := 0, locals := 0 }) (va_Pc [.ref (q 12 0)] (fun U => U.heap.size = sz ∧ va_P D vwCl (cW cI cZ cP cF q S) U.heap ∧ zE D cI cZ cP cF U ∧ va_D (fun _ => True) (cW cI cZ cP cF q S))) (va_Qv (fun S' => Post S') (fun (S' : CST) t => va_P D vwCl (cW cI cZ cP cF q S') t.heap ∧ va_D (va_A (cW cI cZ cP cF q S) sz) (cW cI cZ cP cF q S')) (va_A (cW cI cZ cP cF q S) sz)) 0 0 (va_A (cW cI cZ cP cF q S) sz) := by
  unfold wp_X7_stepOn at h
  refine Met.ofW (cc := cX7_stepOn) (maxL := 1) (ret := none) (by decide) rfl ?_
  intro p e s m args below meth c s₁ B hml hv
  obtain ⟨rfl, hsz, hP, hE, hD0⟩ := hv
  have hx := B.exec
  have hb := B.bytes
  have hr := B.returns
  have hts := atoms_spec (ws := zw_zd_X7_stepOn) B.pre
  have hown : s.vm.findClass RX7 = some m.cls := findClass_of_methodNamed B.named
  have hlocks := B.notSynchronized
  have hK := hE.k
  subst hsz
  have hD := hD0.self (sz := s.heap.size)
  generalize hAe : va_A (cW cI cZ cP cF q S) s.heap.size = A at hD ⊢
  have hA : ∀ q : Nat, s.heap.size ≤ q → A q := fun q h => by rw [← hAe]; exact Or.inr h
  have hl := lv_entry ([.ref (q 12 0)]) (n := 1) (Nat.le_of_ble_eq_true rfl)
  rw [lg_entry_eq]
  generalize (lg_sl ([.ref (q 12 0)]) ++ List.replicate (1 - (lg_sl ([.ref (q 12 0)])).length) Slot.unset).toArray = ls at hl ⊢
  have hl : lv_has ls 1 [(0, .ref (q 12 0))] := hl
  have key : ∀ (H : Heap) (locs : List Loc), va_P D vwCl (cW cI cZ cP cF q S) H → va_S A s.heap H locs → W p l e (headSpec zw_zd_X7_stepOn ({ frames := 0, cells := 0, slots := 0, locals := 0 })).room s m ([.ref (q 12 0)] : List Value).toArray below meth c H locs 0 0 (MQ below (va_Qv (fun S' => Post S') (fun (S' : CST) t => va_P D vwCl (cW cI cZ cP cF q S') t.heap ∧ va_D A (cW cI cZ cP cF q S')) A) ([.ref (q 12 0)] : List Value).toArray s 0 0 A) (F0 m 0 ls []) := by
    intro H locs hP hS
    refine lv_aload_n hx hb dX7_stepOn_0 rfl (lv_at hl 0 rfl) ?_
    obtain ⟨p_1, hp_1⟩ := cget_12 cI cZ cP cF q S
    have hi_1 : cin S 12 0 := Or.inl ⟨by decide, rfl⟩
    refine va_get (D := D) (ci := 7) (v := .ref (q 20 0)) (C := RX7) (T := TX7) (N := 10) hx hb hts (fun _ h => List.mem_cons_of_mem _ (List.mem_append_left _ (List.mem_append_right _ h))) hown hK hP p_1 hp_1 rfl 3 (by decide) (hts (.fieldLink RX7 12 "TemplateForge$Machine" "tally" "LTemplateForge$Tally;") (List.mem_of_getElem? (i := 1) rfl)) (fun _ h9 => h9) rfl dX7_stepOn_1 ?_
    refine lv_dup hx hb dX7_stepOn_4 rfl ?_
    obtain ⟨p_2, hp_2⟩ := cget_20 cI cZ cP cF q S
    have hi_2 : cin S 20 0 := Or.inl ⟨by decide, rfl⟩
    refine va_get (D := D) (ci := 10) (v := .int (cv S 201 0 0)) (C := RX10) (T := TX10) (N := 7) hx hb hts (fun _ h => List.mem_cons_of_mem _ (List.mem_append_right _ h)) hown hK hP p_2 hp_2 rfl 1 (by decide) (hts (.fieldLink RX7 150 "TemplateForge$Tally" "steps" "I") (List.mem_of_getElem? (i := 2) rfl)) (fun _ h9 => h9) rfl dX7_stepOn_5 ?_
    refine lv_iconst (v := 1) hx hb dX7_stepOn_8 (by decide) ?_
    refine lv_iadd hx hb dX7_stepOn_9 ?_
    obtain ⟨p_3, hp_3⟩ := cget_20 cI cZ cP cF q S
    have hi_3 : cin S 20 0 := Or.inl ⟨by decide, rfl⟩
    have hD0_3 := hD
    refine va_put (D := D) (ci := 10) (v := .int ((cv S 201 0 0) + 1)) (ty := .int) (C := RX10) (T := TX10) (N := 7) hx hb hts (fun _ h => List.mem_cons_of_mem _ (List.mem_append_right _ h)) tyX10 tyX10_ok nmX10 hown hK hP hD hS p_3 hp_3 rfl 1 (by decide) (hts (.fieldLink RX7 150 "TemplateForge$Tally" "steps" "I") (List.mem_of_getElem? (i := 2) rfl)) (fun _ h9 => h9) rfl (by decide +kernel) rfl rfl (Nat.le_of_ble_eq_true rfl) dX7_stepOn_10 (fun H locs hP hD hS => ?_)
    obtain ⟨S4, eS4⟩ : ∃ z, z = cs S 201 0 (fun _ => (cv S 201 0 0) + 1) := ⟨_, rfl⟩
    have hP : va_P D vwCl (cW cI cZ cP cF q S4) H := by rw [eS4, ← cW_put (k := 201) (κ := 20) (i := 0) (g := (fun _ => (cv S 201 0 0) + 1)) rfl hD0_3 hp_3 hi_3, cput_201]; exact hP
    have hD : va_D A (cW cI cZ cP cF q S4) := by rw [eS4, ← cW_put (k := 201) (κ := 20) (i := 0) (g := (fun _ => (cv S 201 0 0) + 1)) rfl hD0_3 hp_3 hi_3, cput_201]; exact hD
    have h := h S4 eS4
    refine lv_aload_n hx hb dX7_stepOn_13 rfl (lv_at hl 0 rfl) ?_
    obtain ⟨p_5, hp_5⟩ := cget_12 cI cZ cP cF q S4
    have hi_5 : cin S4 12 0 := Or.inl ⟨by decide, rfl⟩
    refine va_get (D := D) (ci := 7) (v := .ref (q 20 0)) (C := RX7) (T := TX7) (N := 10) hx hb hts (fun _ h => List.mem_cons_of_mem _ (List.mem_append_left _ (List.mem_append_right _ h))) hown hK hP p_5 hp_5 rfl 3 (by decide) (hts (.fieldLink RX7 12 "TemplateForge$Machine" "tally" "LTemplateForge$Tally;") (List.mem_of_getElem? (i := 1) rfl)) (fun _ h9 => h9) rfl dX7_stepOn_14 ?_
    obtain ⟨p_6, hp_6⟩ := cget_20 cI cZ cP cF q S4
    have hi_6 : cin S4 20 0 := Or.inl ⟨by decide, rfl⟩
    refine va_get (D := D) (ci := 10) (v := .int (cv S4 201 0 0)) (C := RX10) (T := TX10) (N := 7) hx hb hts (fun _ h => List.mem_cons_of_mem _ (List.mem_append_right _ h)) hown hK hP p_6 hp_6 rfl 1 (by decide) (hts (.fieldLink RX7 150 "TemplateForge$Tally" "steps" "I") (List.mem_of_getElem? (i := 2) rfl)) (fun _ h9 => h9) rfl dX7_stepOn_17 ?_
    refine lv_sipush (v := 1500) hx hb dX7_stepOn_20 (by decide) ?_
    refine lv_icmp_le (tgt := 31) hx hb dX7_stepOn_23 (by decide) (fun c_7 => ?_) (fun c_7 => ?_)
    · have h := h.1 c_7
      exact W.vret hx hb hr (fun t ht hW => ⟨⟨S4, rfl, h, by rw [ht]; exact hP, hD⟩, hS.F ht⟩) hS.2.2 dX7_stepOn_31
    · have h := h.2 c_7
      refine lv_aload_n hx hb dX7_stepOn_26 rfl (lv_at hl 0 rfl) ?_
      refine lv_iconst (v := 3) hx hb dX7_stepOn_27 (by decide) ?_
      obtain ⟨p_8, hp_8⟩ := cget_12 cI cZ cP cF q S4
      have hi_8 : cin S4 12 0 := Or.inl ⟨by decide, rfl⟩
      have hD0_8 := hD
      refine va_put (D := D) (ci := 7) (v := .int 3) (ty := .int) (C := RX7) (T := TX7) (N := 10) hx hb hts (fun _ h => List.mem_cons_of_mem _ (List.mem_append_left _ (List.mem_append_right _ h))) tyX7 tyX7_ok nmX7 hown hK hP hD hS p_8 hp_8 rfl 7 (by decide) (hts (.fieldLink RX7 53 "TemplateForge$Machine" "ending" "I") (List.mem_of_getElem? (i := 3) rfl)) (fun _ h9 => h9) rfl (by decide +kernel) rfl rfl (Nat.le_of_ble_eq_true rfl) dX7_stepOn_28 (fun H locs hP hD hS => ?_)
      obtain ⟨S9, eS9⟩ : ∃ z, z = cs S4 127 0 (fun _ => 3) := ⟨_, rfl⟩
      have hP : va_P D vwCl (cW cI cZ cP cF q S9) H := by rw [eS9, ← cW_put (k := 127) (κ := 12) (i := 0) (g := (fun _ => 3)) rfl hD0_8 hp_8 hi_8, cput_127]; exact hP
      have hD : va_D A (cW cI cZ cP cF q S9) := by rw [eS9, ← cW_put (k := 127) (κ := 12) (i := 0) (g := (fun _ => 3)) rfl hD0_8 hp_8 hi_8, cput_127]; exact hD
      have h := h S9 eS9
      exact W.vret hx hb hr (fun t ht hW => ⟨⟨S9, rfl, h, by rw [ht]; exact hP, hD⟩, hS.F ht⟩) hS.2.2 dX7_stepOn_31
  exact key _ _ hP va_S.rf

def wp_X11_reckoned (a0 : Int32) (a1 : Int32) (a2 : Int32) (Post : Int32 → Prop) : Prop :=
  ((a0 : Int32).toInt < 2 ∨ 6 < (a0 : Int32).toInt → (((¬ ((a1 : Int32) = a2)) → (Post 0)) ∧ (((a1 : Int32) = a2) → (Post 1)))) ∧ (a0 = 2 → (Post (a1 + a2))) ∧ (a0 = 3 → (Post (a1 - a2))) ∧ (a0 = 4 → (Post (a1 * a2))) ∧ (a0 = 5 → (((¬ ((a2 : Int32) = 0)) → (¬ (a2 : Int32) = 0 ∧ (Post (a1 / a2)))) ∧ (((a2 : Int32) = 0) → (Post 0)))) ∧ (a0 = 6 → (((a2 ≤ a1) → (Post 0)) ∧ ((¬ (a2 ≤ a1)) → (Post 1))))
def zw_zd_X11_reckoned : List Cond := .code yX11_reckoned cX11_reckoned 3 (some .int) :: ((([] : List Cond)))
set_option maxHeartbeats 16000000 in
set_option maxRecDepth 100000 in
theorem zd_X11_reckoned (l : Launch) (D : va_G) (cI cZ cP cF : Nat) (a0 : Int32) (a1 : Int32) (a2 : Int32) (Post : Int32 → Prop) (h : wp_X11_reckoned a0 a1 a2 Post) : Met l yX11_reckoned zw_zd_X11_reckoned ({ frames := 0, cells := 0, slots := 0, locals := 0 }) (va_Pc [.int a0, .int a1, .int a2] (fun U => va_P D vwCl [] U.heap ∧ zE D cI cZ cP cF U)) (vp_Si Post) 0 0 (fun _ => False) := by
  unfold wp_X11_reckoned at h
  refine Met.ofW (cc := cX11_reckoned) (maxL := 3) (ret := (some .int)) (by decide) rfl ?_
  intro p e s m args below meth c s₁ B hml hv
  obtain ⟨rfl, hP, hE⟩ := hv
  have hx := B.exec
  have hb := B.bytes
  have hr := B.returns
  have hts := atoms_spec (ws := zw_zd_X11_reckoned) B.pre
  have hown : s.vm.findClass RX11 = some m.cls := findClass_of_methodNamed B.named
  have hlocks := B.notSynchronized
  have hK := hE.k
  have hl := lv_entry ([.int a0, .int a1, .int a2]) (n := 3) (Nat.le_of_ble_eq_true rfl)
  rw [lg_entry_eq]
  generalize (lg_sl ([.int a0, .int a1, .int a2]) ++ List.replicate (3 - (lg_sl ([.int a0, .int a1, .int a2])).length) Slot.unset).toArray = ls at hl ⊢
  have hl : lv_has ls 3 [(0, .int a0), (1, .int a1), (2, .int a2)] := hl
  refine lv_iload_n hx hb dX11_reckoned_0 rfl (lv_at hl 0 rfl) ?_
  rcases zt_2_6 a0 with h_out | h_in | h_in | h_in | h_in | h_in
  · have h := h.1 h_out
    refine lv_tableOut (tgt := 71) hx hb dX11_reckoned_1 h_out (by decide) ?_
    refine lv_iload_n hx hb dX11_reckoned_71 rfl (lv_at hl 1 rfl) ?_
    refine lv_iload_n hx hb dX11_reckoned_72 rfl (lv_at hl 2 rfl) ?_
    refine lv_icmp_ne (tgt := 80) hx hb dX11_reckoned_73 (by decide) (fun c_1 => ?_) (fun c_1 => ?_)
    · have h := h.1 c_1
      refine lv_iconst (v := 0) hx hb dX11_reckoned_80 (by decide) ?_
      exact W.iret (v := 0) hx hb hr (fun t ht hW => ⟨_, rfl, h, ht⟩) (fun q h => by cases h) dX11_reckoned_81
    · have h := h.2 c_1
      refine lv_iconst (v := 1) hx hb dX11_reckoned_76 (by decide) ?_
      refine lv_goto (tgt := 81) hx hb dX11_reckoned_77 (by decide) ?_
      exact W.iret (v := 1) hx hb hr (fun t ht hW => ⟨_, rfl, h, ht⟩) (fun q h => by cases h) dX11_reckoned_81
  · have h := h.2.1 h_in
    refine lv_tableIn (off := 35) (tgt := 36) hx hb dX11_reckoned_1 (by rw [h_in]; decide) (by rw [h_in]; decide) (by rw [h_in]; decide) (by decide) ?_
    refine lv_iload_n hx hb dX11_reckoned_36 rfl (lv_at hl 1 rfl) ?_
    refine lv_iload_n hx hb dX11_reckoned_37 rfl (lv_at hl 2 rfl) ?_
    refine lv_iadd hx hb dX11_reckoned_38 ?_
    exact W.iret (v := a1 + a2) hx hb hr (fun t ht hW => ⟨_, rfl, h, ht⟩) (fun q h => by cases h) dX11_reckoned_39
  · have h := h.2.2.1 h_in
    refine lv_tableIn (off := 39) (tgt := 40) hx hb dX11_reckoned_1 (by rw [h_in]; decide) (by rw [h_in]; decide) (by rw [h_in]; decide) (by decide) ?_
    refine lv_iload_n hx hb dX11_reckoned_40 rfl (lv_at hl 1 rfl) ?_
    refine lv_iload_n hx hb dX11_reckoned_41 rfl (lv_at hl 2 rfl) ?_
    refine lv_isub hx hb dX11_reckoned_42 ?_
    exact W.iret (v := a1 - a2) hx hb hr (fun t ht hW => ⟨_, rfl, h, ht⟩) (fun q h => by cases h) dX11_reckoned_43
  · have h := h.2.2.2.1 h_in
    refine lv_tableIn (off := 43) (tgt := 44) hx hb dX11_reckoned_1 (by rw [h_in]; decide) (by rw [h_in]; decide) (by rw [h_in]; decide) (by decide) ?_
    refine lv_iload_n hx hb dX11_reckoned_44 rfl (lv_at hl 1 rfl) ?_
    refine lv_iload_n hx hb dX11_reckoned_45 rfl (lv_at hl 2 rfl) ?_
    refine lv_imul hx hb dX11_reckoned_46 ?_
    exact W.iret (v := a1 * a2) hx hb hr (fun t ht hW => ⟨_, rfl, h, ht⟩) (fun q h => by cases h) dX11_reckoned_47
  · have h := h.2.2.2.2.1 h_in
    refine lv_tableIn (off := 47) (tgt := 48) hx hb dX11_reckoned_1 (by rw [h_in]; decide) (by rw [h_in]; decide) (by rw [h_in]; decide) (by decide) ?_
    refine lv_iload_n hx hb dX11_reckoned_48 rfl (lv_at hl 2 rfl) ?_
    refine lv_if_ne (tgt := 56) hx hb dX11_reckoned_49 (by decide) (fun c_2 => ?_) (fun c_2 => ?_)
    · have h := h.1 c_2
      refine lv_iload_n hx hb dX11_reckoned_56 rfl (lv_at hl 1 rfl) ?_
      refine lv_iload_n hx hb dX11_reckoned_57 rfl (lv_at hl 2 rfl) ?_
      refine lv_idiv hx hb dX11_reckoned_58 h.1 ?_
      have h := h.2
      exact W.iret (v := a1 / a2) hx hb hr (fun t ht hW => ⟨_, rfl, h, ht⟩) (fun q h => by cases h) dX11_reckoned_59
    · have h := h.2 c_2
      refine lv_iconst (v := 0) hx hb dX11_reckoned_52 (by decide) ?_
      refine lv_goto (tgt := 59) hx hb dX11_reckoned_53 (by decide) ?_
      exact W.iret (v := 0) hx hb hr (fun t ht hW => ⟨_, rfl, h, ht⟩) (fun q h => by cases h) dX11_reckoned_59
  · have h := h.2.2.2.2.2 h_in
    refine lv_tableIn (off := 59) (tgt := 60) hx hb dX11_reckoned_1 (by rw [h_in]; decide) (by rw [h_in]; decide) (by rw [h_in]; decide) (by decide) ?_
    refine lv_iload_n hx hb dX11_reckoned_60 rfl (lv_at hl 1 rfl) ?_
    refine lv_iload_n hx hb dX11_reckoned_61 rfl (lv_at hl 2 rfl) ?_
    refine lv_icmp_ge (tgt := 69) hx hb dX11_reckoned_62 (by decide) (fun c_3 => ?_) (fun c_3 => ?_)
    · have h := h.1 c_3
      refine lv_iconst (v := 0) hx hb dX11_reckoned_69 (by decide) ?_
      exact W.iret (v := 0) hx hb hr (fun t ht hW => ⟨_, rfl, h, ht⟩) (fun q h => by cases h) dX11_reckoned_70
    · have h := h.2 c_3
      refine lv_iconst (v := 1) hx hb dX11_reckoned_65 (by decide) ?_
      refine lv_goto (tgt := 70) hx hb dX11_reckoned_66 (by decide) ?_
      exact W.iret (v := 1) hx hb hr (fun t ht hW => ⟨_, rfl, h, ht⟩) (fun q h => by cases h) dX11_reckoned_70
