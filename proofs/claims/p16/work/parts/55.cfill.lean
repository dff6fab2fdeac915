def wp_J7_rangeCheck_23922 (a0 : Int32) (a1 : Int32) (a2 : Int32) (Post : Prop) : Prop :=
  (((a1 : Int32) ≤ a2) → (((0 ≤ a1) → ((((a2 : Int32) ≤ a0) → (Post)) ∧ ((¬ ((a2 : Int32) ≤ a0)) → (False)))) ∧ ((¬ (0 ≤ a1)) → (False)))) ∧ ((¬ ((a1 : Int32) ≤ a2)) → (False))
def zw_zd_J7_rangeCheck_23922 : List Cond := .code yJ7_rangeCheck_23922 cJ7_rangeCheck_23922 3 none :: ((([] : List Cond)))
set_option maxHeartbeats 16000000 in
set_option maxRecDepth 100000 in
theorem zd_J7_rangeCheck_23922 (l : Launch) (D : va_G) (cI cZ cP cF : Nat) (a0 : Int32) (a1 : Int32) (a2 : Int32) (Post : Prop) (h : wp_J7_rangeCheck_23922 a0 a1 a2 Post) : Met l yJ7_rangeCheck_23922 zw_zd_J7_rangeCheck_23922 ({ frames := 0, cells := 0, slots := 0, locals := 0 }) (va_Pc [.int a0, .int a1, .int a2] (fun U => va_P D vwCl [] U.heap ∧ zF D cI cZ cP cF U)) (va_Sv (fun _ => Post)) 0 0 (fun _ => False) := by
  unfold wp_J7_rangeCheck_23922 at h
  refine Met.ofW (cc := cJ7_rangeCheck_23922) (maxL := 3) (ret := none) (by decide) rfl ?_
  intro p e s m args below meth c s₁ B hml hv
  obtain ⟨rfl, hP, hE⟩ := hv
  have hx := B.exec
  have hb := B.bytes
  have hr := B.returns
  have hts := atoms_spec (ws := zw_zd_J7_rangeCheck_23922) B.pre
  have hown : s.vm.findClass RJ7 = some m.cls := findClass_of_methodNamed B.named
  have hlocks := B.notSynchronized
  have hK := hE.k
  have hl := lv_entry ([.int a0, .int a1, .int a2]) (n := 3) (Nat.le_of_ble_eq_true rfl)
  rw [lg_entry_eq]
  generalize (lg_sl ([.int a0, .int a1, .int a2]) ++ List.replicate (3 - (lg_sl ([.int a0, .int a1, .int a2])).length) Slot.unset).toArray = ls at hl ⊢
  have hl : lv_has ls 3 [(0, .int a0), (1, .int a1), (2, .int a2)] := hl
  refine lv_iload_n hx hb dJ7_rangeCheck_23922_0 rfl (lv_at hl 1 rfl) ?_
  refine lv_iload_n hx hb dJ7_rangeCheck_23922_1 rfl (lv_at hl 2 rfl) ?_
  refine lv_icmp_le (tgt := 46) hx hb dJ7_rangeCheck_23922_2 (by decide) (fun c_1 => ?_) (fun c_1 => ?_)
  · have h := h.1 c_1
    refine lv_iload_n hx hb dJ7_rangeCheck_23922_46 rfl (lv_at hl 1 rfl) ?_
    refine lv_if_ge (tgt := 59) hx hb dJ7_rangeCheck_23922_47 (by decide) (fun c_2 => ?_) (fun c_2 => ?_)
    · have h := h.1 c_2
      refine lv_iload_n hx hb dJ7_rangeCheck_23922_59 rfl (lv_at hl 2 rfl) ?_
      refine lv_iload_n hx hb dJ7_rangeCheck_23922_60 rfl (lv_at hl 0 rfl) ?_
      refine lv_icmp_le (tgt := 73) hx hb dJ7_rangeCheck_23922_61 (by decide) (fun c_3 => ?_) (fun c_3 => ?_)
      · have h := h.1 c_3
        exact W.vret hx hb hr (fun t ht hW => ⟨rfl, h, ht⟩) (fun q h => by cases h) dJ7_rangeCheck_23922_73
      · have h := h.2 c_3
        exact h.elim
    · have h := h.2 c_2
      exact h.elim
  · have h := h.2 c_1
    exact h.elim

def wl_J7_fill_53178_k9_5 (K_20 : CST → Prop) (Post : CST → Prop) : Nat → CST → Int32 → Int32 → Int32 → Prop
  | 0, _, _, _, _ => False
  | n_5 + 1, S_5, x5_1, x5_2, x5_3 => ((x5_3 ≤ x5_2) → ((K_20 S_5 ))) ∧ ((¬ (x5_3 ≤ x5_2)) → (vp_in x5_2 60 ∧ (∀ S4 : CST, S4 = cs S_5 90 0 (upd (cv S_5 90 0) (x5_2 : Int32).toNatClampNeg x5_1) → (wl_J7_fill_53178_k9_5 K_20 Post n_5 S4 x5_1 (x5_2 + 1) x5_3))))
def wp_J7_fill_53178_k9 (S : CST) (a1 : Int32) (Post : CST → Prop) : Prop :=
  ∃ n_5, wl_J7_fill_53178_k9_5 (fun S_20 => Post S_20) Post n_5 S a1 0 60
def zw_zd_J7_fill_53178_k9 : List Cond := .code yJ7_fill_53178 cJ7_fill_53178 4 none :: ((([] : List Cond)))
set_option maxHeartbeats 16000000 in
set_option maxRecDepth 100000 in
theorem zd_J7_fill_53178_k9 (l : Launch) (D : va_G) (cI cZ cP cF : Nat) (q : Nat → Nat → Nat) (S : CST) (a1 : Int32) (sz : Nat) (Post : CST → Prop) (h : wp_J7_fill_53178_k9 S a1 Post) : Met l yJ7_fill_53178 zw_zd_J7_fill_53178_k9 ({ frames := 0, cells := 0, slots := 0, locals := 0 }) (va_Pc [.ref (q 9 0), .int a1] (fun U => U.heap.size = sz ∧ va_P D vwCl (cW cI cZ cP cF q S) U.heap ∧ zF D cI cZ cP cF U ∧ va_D (fun _ => True) (cW cI cZ cP cF q S))) (va_Qv (fun S' => Post S') (fun (S' : CST) t => va_P D vwCl (cW cI cZ cP cF q S') t.heap ∧ va_D (va_A (cW cI cZ cP cF q S) sz) (cW cI cZ cP cF q S') ∧ S'.2 = S.2) (va_A (cW cI cZ cP cF q S) sz)) 0 0 (va_A (cW cI cZ cP cF q S) sz) := by
  unfold wp_J7_fill_53178_k9 at h
  refine Met.ofW (cc := cJ7_fill_53178) (maxL := 4) (ret := none) (by decide) rfl ?_
  intro p e s m args below meth c s₁ B hml hv
  obtain ⟨rfl, hsz, hP, hE, hD0⟩ := hv
  have hx := B.exec
  have hb := B.bytes
  have hr := B.returns
  have hts := atoms_spec (ws := zw_zd_J7_fill_53178_k9) B.pre
  have hown : s.vm.findClass RJ7 = some m.cls := findClass_of_methodNamed B.named
  have hlocks := B.notSynchronized
  have hK := hE.k
  subst hsz
  have hD := hD0.self (sz := s.heap.size)
  generalize hAe : va_A (cW cI cZ cP cF q S) s.heap.size = A at hD ⊢
  have hA : ∀ q : Nat, s.heap.size ≤ q → A q := fun q h => by rw [← hAe]; exact Or.inr h
  have hN : S.2 = S.2 := rfl
  have hl := lv_entry ([.ref (q 9 0), .int a1]) (n := 4) (Nat.le_of_ble_eq_true rfl)
  rw [lg_entry_eq]
  generalize (lg_sl ([.ref (q 9 0), .int a1]) ++ List.replicate (4 - (lg_sl ([.ref (q 9 0), .int a1])).length) Slot.unset).toArray = ls at hl ⊢
  have hl : lv_has ls 4 [(0, .ref (q 9 0)), (1, .int a1)] := hl
  have key : ∀ (H : Heap) (locs : List Loc), va_P D vwCl (cW cI cZ cP cF q S) H → va_S A s.heap H locs → W p l e (headSpec zw_zd_J7_fill_53178_k9 ({ frames := 0, cells := 0, slots := 0, locals := 0 })).room s m ([.ref (q 9 0), .int a1] : List Value).toArray below meth c H locs 0 0 (MQ below (va_Qv (fun S' => Post S') (fun (S' : CST) t => va_P D vwCl (cW cI cZ cP cF q S') t.heap ∧ va_D A (cW cI cZ cP cF q S') ∧ S'.2 = S.2) A) ([.ref (q 9 0), .int a1] : List Value).toArray s 0 0 A) (F0 m 0 ls []) := by
    intro H locs hP hS
    refine lv_iconst (v := 0) hx hb dJ7_fill_53178_0 (by decide) ?_
    refine lv_istore_n (lv' := [(2, .int 0), (0, .ref (q 9 0)), (1, .int a1)]) hx hb dJ7_fill_53178_1 rfl hl (by decide) rfl (fun ls hl => ?_)
    refine lv_aload_n hx hb dJ7_fill_53178_2 rfl (lv_at hl 1 rfl) ?_
    obtain ⟨p_1, hp_1⟩ := cget_9 cI cZ cP cF q S
    have hi_1 : cin S 9 0 := Or.inl ⟨by decide, rfl⟩
    refine va_alen hx hb hK hP p_1 0 hp_1 rfl (v := 60) rfl dJ7_fill_53178_3 ?_
    refine lv_istore_n (lv' := [(3, .int 60), (2, .int 0), (0, .ref (q 9 0)), (1, .int a1)]) hx hb dJ7_fill_53178_4 rfl hl (by decide) rfl (fun ls hl => ?_)
    have EX_5_20 : ∀ (S_20 : CST) (H : Heap) (locs : List Loc) (ls : Array Slot), (Post S_20) → va_P D vwCl (cW cI cZ cP cF q S_20) H → va_D A (cW cI cZ cP cF q S_20) → va_S A s.heap H locs → S_20.2 = S.2 → lv_has ls 4 [] → W p l e (headSpec zw_zd_J7_fill_53178_k9 ({ frames := 0, cells := 0, slots := 0, locals := 0 })).room s m ([.ref (q 9 0), .int a1] : List Value).toArray below meth c H locs 0 0 (MQ below (va_Qv (fun S' => Post S') (fun (S' : CST) t => va_P D vwCl (cW cI cZ cP cF q S') t.heap ∧ va_D A (cW cI cZ cP cF q S') ∧ S'.2 = S.2) A) ([.ref (q 9 0), .int a1] : List Value).toArray s 0 0 A) (F0 m 20 ls []) := by
      intro S_20  H locs ls h hP hD hS hN hl
      exact W.vret hx hb hr (fun t ht hW => ⟨⟨S_20, rfl, h, by rw [ht]; exact hP, hD, hN⟩, hS.F ht⟩) hS.2.2 dJ7_fill_53178_20
    have LP_5 : ∀ (n_5 : Nat), ∀ (S_5 : CST) (x5_1 : Int32) (x5_2 : Int32) (x5_3 : Int32) (H : Heap) (locs : List Loc) (ls : Array Slot), wl_J7_fill_53178_k9_5 (fun S_20 => Post S_20) Post n_5 S_5 x5_1 x5_2 x5_3 → va_P D vwCl (cW cI cZ cP cF q S_5) H → va_D A (cW cI cZ cP cF q S_5) → va_S A s.heap H locs → S_5.2 = S.2 → lv_has ls 4 [(0, .ref (q 9 0)), (1, .int x5_1), (2, .int x5_2), (3, .int x5_3)] → W p l e (headSpec zw_zd_J7_fill_53178_k9 ({ frames := 0, cells := 0, slots := 0, locals := 0 })).room s m ([.ref (q 9 0), .int a1] : List Value).toArray below meth c H locs 0 0 (MQ below (va_Qv (fun S' => Post S') (fun (S' : CST) t => va_P D vwCl (cW cI cZ cP cF q S') t.heap ∧ va_D A (cW cI cZ cP cF q S') ∧ S'.2 = S.2) A) ([.ref (q 9 0), .int a1] : List Value).toArray s 0 0 A) (F0 m 5 ls []) := by
      intro n_5
      induction n_5 with
      | zero =>
        intro S_5 x5_1 x5_2 x5_3 H locs ls h hP hD hS hN hl
        exact False.elim h
      | succ n_5 ih_5 =>
        intro S_5 x5_1 x5_2 x5_3 H locs ls h hP hD hS hN hl
        unfold wl_J7_fill_53178_k9_5 at h
        refine lv_iload_n hx hb dJ7_fill_53178_5 rfl (lv_at hl 2 rfl) ?_
        refine lv_iload_n hx hb dJ7_fill_53178_6 rfl (lv_at hl 3 rfl) ?_
        refine lv_icmp_ge (tgt := 20) hx hb dJ7_fill_53178_7 (by decide) (fun c_2 => ?_) (fun c_2 => ?_)
        · have h := h.1 c_2
          exact EX_5_20  S_5  H locs _ h hP hD hS hN (lv_sub hl [] rfl)
        · have h := h.2 c_2
          refine lv_aload_n hx hb dJ7_fill_53178_10 rfl (lv_at hl 0 rfl) ?_
          refine lv_iload_n hx hb dJ7_fill_53178_11 rfl (lv_at hl 2 rfl) ?_
          refine lv_iload_n hx hb dJ7_fill_53178_12 rfl (lv_at hl 1 rfl) ?_
          obtain ⟨p_3, hp_3⟩ := cget_9 cI cZ cP cF q S_5
          have hi_3 : cin S_5 9 0 := Or.inl ⟨by decide, rfl⟩
          have hin_3 := h.1
          have h := h.2
          have hD0_3 := hD
          refine va_iast hx hb hK hP hD hS p_3 0 hp_3 rfl hin_3 dJ7_fill_53178_13 (fun H locs hP hD hS => ?_)
          obtain ⟨S4, eS4⟩ : ∃ z, z = cs S_5 90 0 (upd (cv S_5 90 0) (x5_2 : Int32).toNatClampNeg x5_1) := ⟨_, rfl⟩
          have hP : va_P D vwCl (cW cI cZ cP cF q S4) H := by rw [eS4, ← cW_put (k := 90) (κ := 9) (i := 0) (g := (upd (cv S_5 90 0) (x5_2 : Int32).toNatClampNeg x5_1)) rfl hD0_3 hp_3 hi_3, cput_90]; exact hP
          have hD : va_D A (cW cI cZ cP cF q S4) := by rw [eS4, ← cW_put (k := 90) (κ := 9) (i := 0) (g := (upd (cv S_5 90 0) (x5_2 : Int32).toNatClampNeg x5_1)) rfl hD0_3 hp_3 hi_3, cput_90]; exact hD
          have hN : S4.2 = S.2 := by rw [eS4]; exact hN
          have h := h S4 eS4
          refine lv_iinc (v := x5_2 + 1) (lv' := [(2, .int (x5_2 + 1)), (0, .ref (q 9 0)), (1, .int x5_1), (3, .int x5_3)]) hx hb dJ7_fill_53178_14 hl (k := 2) rfl rfl (by decide) rfl (fun ls hl => ?_)
          refine lv_goto (tgt := 5) hx hb dJ7_fill_53178_17 (by decide) ?_
          exact ih_5  S4 x5_1 (x5_2 + 1) x5_3 H locs _ h hP hD hS hN (lv_sub hl [1, 2, 0, 3] rfl)
    obtain ⟨n_5, h⟩ := h
    exact LP_5 n_5 S a1 0 60 H locs _ h hP hD hS hN (lv_sub hl [2, 3, 1, 0] rfl)
  exact key _ _ hP va_S.rf

def wl_J7_fill_53178_k23_5 (K_20 : CST → Prop) (Post : CST → Prop) : Nat → CST → Nat → Int32 → Int32 → Int32 → Prop
  | 0, _, _, _, _, _ => False
  | n_5 + 1, S_5, y5_0, x5_1, x5_2, x5_3 => ((x5_3 ≤ x5_2) → ((K_20 S_5 ))) ∧ ((¬ (x5_3 ≤ x5_2)) → (cin S_5 23 y5_0 ∧ vp_in x5_2 15 ∧ (∀ S4 : CST, S4 = cs S_5 230 y5_0 (upd (cv S_5 230 y5_0) (x5_2 : Int32).toNatClampNeg x5_1) → (wl_J7_fill_53178_k23_5 K_20 Post n_5 S4 y5_0 x5_1 (x5_2 + 1) x5_3))))
def wp_J7_fill_53178_k23 (S : CST) (i0 : Nat) (a1 : Int32) (Post : CST → Prop) : Prop :=
  cin S 23 i0 ∧ (∃ n_5, wl_J7_fill_53178_k23_5 (fun S_20 => Post S_20) Post n_5 S i0 a1 0 15)
def zw_zd_J7_fill_53178_k23 : List Cond := .code yJ7_fill_53178 cJ7_fill_53178 4 none :: ((([] : List Cond)))
set_option maxHeartbeats 16000000 in
set_option maxRecDepth 100000 in
theorem zd_J7_fill_53178_k23 (l : Launch) (D : va_G) (cI cZ cP cF : Nat) (q : Nat → Nat → Nat) (S : CST) (i0 : Nat) (a1 : Int32) (sz : Nat) (Post : CST → Prop) (h : wp_J7_fill_53178_k23 S i0 a1 Post) : Met l yJ7_fill_53178 zw_zd_J7_fill_53178_k23 ({ frames := 0, cells := 0, slots := 0, locals := 0 }) (va_Pc [.ref (q 23 i0), .int a1] (fun U => U.heap.size = sz ∧ va_P D vwCl (cW cI cZ cP cF q S) U.heap ∧ zF D cI cZ cP cF U ∧ va_D (fun _ => True) (cW cI cZ cP cF q S))) (va_Qv (fun S' => Post S') (fun (S' : CST) t => va_P D vwCl (cW cI cZ cP cF q S') t.heap ∧ va_D (va_A (cW cI cZ cP cF q S) sz) (cW cI cZ cP cF q S') ∧ S'.2 = S.2) (va_A (cW cI cZ cP cF q S) sz)) 0 0 (va_A (cW cI cZ cP cF q S) sz) := by
  unfold wp_J7_fill_53178_k23 at h
  refine Met.ofW (cc := cJ7_fill_53178) (maxL := 4) (ret := none) (by decide) rfl ?_
  intro p e s m args below meth c s₁ B hml hv
  obtain ⟨rfl, hsz, hP, hE, hD0⟩ := hv
  have hx := B.exec
  have hb := B.bytes
  have hr := B.returns
  have hts := atoms_spec (ws := zw_zd_J7_fill_53178_k23) B.pre
  have hown : s.vm.findClass RJ7 = some m.cls := findClass_of_methodNamed B.named
  have hlocks := B.notSynchronized
  have hK := hE.k
  subst hsz
  have hD := hD0.self (sz := s.heap.size)
  generalize hAe : va_A (cW cI cZ cP cF q S) s.heap.size = A at hD ⊢
  have hA : ∀ q : Nat, s.heap.size ≤ q → A q := fun q h => by rw [← hAe]; exact Or.inr h
  have hN : S.2 = S.2 := rfl
  have hl := lv_entry ([.ref (q 23 i0), .int a1]) (n := 4) (Nat.le_of_ble_eq_true rfl)
  rw [lg_entry_eq]
  generalize (lg_sl ([.ref (q 23 i0), .int a1]) ++ List.replicate (4 - (lg_sl ([.ref (q 23 i0), .int a1])).length) Slot.unset).toArray = ls at hl ⊢
  have hl : lv_has ls 4 [(0, .ref (q 23 i0)), (1, .int a1)] := hl
  have key : ∀ (H : Heap) (locs : List Loc), va_P D vwCl (cW cI cZ cP cF q S) H → va_S A s.heap H locs → W p l e (headSpec zw_zd_J7_fill_53178_k23 ({ frames := 0, cells := 0, slots := 0, locals := 0 })).room s m ([.ref (q 23 i0), .int a1] : List Value).toArray below meth c H locs 0 0 (MQ below (va_Qv (fun S' => Post S') (fun (S' : CST) t => va_P D vwCl (cW cI cZ cP cF q S') t.heap ∧ va_D A (cW cI cZ cP cF q S') ∧ S'.2 = S.2) A) ([.ref (q 23 i0), .int a1] : List Value).toArray s 0 0 A) (F0 m 0 ls []) := by
    intro H locs hP hS
    refine lv_iconst (v := 0) hx hb dJ7_fill_53178_0 (by decide) ?_
    refine lv_istore_n (lv' := [(2, .int 0), (0, .ref (q 23 i0)), (1, .int a1)]) hx hb dJ7_fill_53178_1 rfl hl (by decide) rfl (fun ls hl => ?_)
    refine lv_aload_n hx hb dJ7_fill_53178_2 rfl (lv_at hl 1 rfl) ?_
    have hi_1 := h.1
    have h := h.2
    obtain ⟨p_1, hp_1⟩ := cget_23 cI cZ cP cF q S hi_1
    refine va_alen hx hb hK hP p_1 0 hp_1 rfl (v := 15) rfl dJ7_fill_53178_3 ?_
    refine lv_istore_n (lv' := [(3, .int 15), (2, .int 0), (0, .ref (q 23 i0)), (1, .int a1)]) hx hb dJ7_fill_53178_4 rfl hl (by decide) rfl (fun ls hl => ?_)
    have EX_5_20 : ∀ (S_20 : CST) (H : Heap) (locs : List Loc) (ls : Array Slot), (Post S_20) → va_P D vwCl (cW cI cZ cP cF q S_20) H → va_D A (cW cI cZ cP cF q S_20) → va_S A s.heap H locs → S_20.2 = S.2 → lv_has ls 4 [] → W p l e (headSpec zw_zd_J7_fill_53178_k23 ({ frames := 0, cells := 0, slots := 0, locals := 0 })).room s m ([.ref (q 23 i0), .int a1] : List Value).toArray below meth c H locs 0 0 (MQ below (va_Qv (fun S' => Post S') (fun (S' : CST) t => va_P D vwCl (cW cI cZ cP cF q S') t.heap ∧ va_D A (cW cI cZ cP cF q S') ∧ S'.2 = S.2) A) ([.ref (q 23 i0), .int a1] : List Value).toArray s 0 0 A) (F0 m 20 ls []) := by
      intro S_20  H locs ls h hP hD hS hN hl
      exact W.vret hx hb hr (fun t ht hW => ⟨⟨S_20, rfl, h, by rw [ht]; exact hP, hD, hN⟩, hS.F ht⟩) hS.2.2 dJ7_fill_53178_20
    have LP_5 : ∀ (n_5 : Nat), ∀ (S_5 : CST) (y5_0 : Nat) (x5_1 : Int32) (x5_2 : Int32) (x5_3 : Int32) (H : Heap) (locs : List Loc) (ls : Array Slot), wl_J7_fill_53178_k23_5 (fun S_20 => Post S_20) Post n_5 S_5 y5_0 x5_1 x5_2 x5_3 → va_P D vwCl (cW cI cZ cP cF q S_5) H → va_D A (cW cI cZ cP cF q S_5) → va_S A s.heap H locs → S_5.2 = S.2 → lv_has ls 4 [(0, .ref (q 23 y5_0)), (1, .int x5_1), (2, .int x5_2), (3, .int x5_3)] → W p l e (headSpec zw_zd_J7_fill_53178_k23 ({ frames := 0, cells := 0, slots := 0, locals := 0 })).room s m ([.ref (q 23 i0), .int a1] : List Value).toArray below meth c H locs 0 0 (MQ below (va_Qv (fun S' => Post S') (fun (S' : CST) t => va_P D vwCl (cW cI cZ cP cF q S') t.heap ∧ va_D A (cW cI cZ cP cF q S') ∧ S'.2 = S.2) A) ([.ref (q 23 i0), .int a1] : List Value).toArray s 0 0 A) (F0 m 5 ls []) := by
      intro n_5
      induction n_5 with
      | zero =>
        intro S_5 y5_0 x5_1 x5_2 x5_3 H locs ls h hP hD hS hN hl
        exact False.elim h
      | succ n_5 ih_5 =>
        intro S_5 y5_0 x5_1 x5_2 x5_3 H locs ls h hP hD hS hN hl
        unfold wl_J7_fill_53178_k23_5 at h
        refine lv_iload_n hx hb dJ7_fill_53178_5 rfl (lv_at hl 2 rfl) ?_
        refine lv_iload_n hx hb dJ7_fill_53178_6 rfl (lv_at hl 3 rfl) ?_
        refine lv_icmp_ge (tgt := 20) hx hb dJ7_fill_53178_7 (by decide) (fun c_2 => ?_) (fun c_2 => ?_)
        · have h := h.1 c_2
          exact EX_5_20  S_5  H locs _ h hP hD hS hN (lv_sub hl [] rfl)
        · have h := h.2 c_2
          refine lv_aload_n hx hb dJ7_fill_53178_10 rfl (lv_at hl 0 rfl) ?_
          refine lv_iload_n hx hb dJ7_fill_53178_11 rfl (lv_at hl 2 rfl) ?_
          refine lv_iload_n hx hb dJ7_fill_53178_12 rfl (lv_at hl 1 rfl) ?_
          have hi_3 := h.1
          have h := h.2
          obtain ⟨p_3, hp_3⟩ := cget_23 cI cZ cP cF q S_5 hi_3
          have hin_3 := h.1
          have h := h.2
          have hD0_3 := hD
          refine va_iast hx hb hK hP hD hS p_3 0 hp_3 rfl hin_3 dJ7_fill_53178_13 (fun H locs hP hD hS => ?_)
          obtain ⟨S4, eS4⟩ : ∃ z, z = cs S_5 230 y5_0 (upd (cv S_5 230 y5_0) (x5_2 : Int32).toNatClampNeg x5_1) := ⟨_, rfl⟩
          have hP : va_P D vwCl (cW cI cZ cP cF q S4) H := by rw [eS4, ← cW_put (k := 230) (κ := 23) (i := y5_0) (g := (upd (cv S_5 230 y5_0) (x5_2 : Int32).toNatClampNeg x5_1)) rfl hD0_3 hp_3 hi_3, cput_230]; exact hP
          have hD : va_D A (cW cI cZ cP cF q S4) := by rw [eS4, ← cW_put (k := 230) (κ := 23) (i := y5_0) (g := (upd (cv S_5 230 y5_0) (x5_2 : Int32).toNatClampNeg x5_1)) rfl hD0_3 hp_3 hi_3, cput_230]; exact hD
          have hN : S4.2 = S.2 := by rw [eS4]; exact hN
          have h := h S4 eS4
          refine lv_iinc (v := x5_2 + 1) (lv' := [(2, .int (x5_2 + 1)), (0, .ref (q 23 y5_0)), (1, .int x5_1), (3, .int x5_3)]) hx hb dJ7_fill_53178_14 hl (k := 2) rfl rfl (by decide) rfl (fun ls hl => ?_)
          refine lv_goto (tgt := 5) hx hb dJ7_fill_53178_17 (by decide) ?_
          exact ih_5  S4 y5_0 x5_1 (x5_2 + 1) x5_3 H locs _ h hP hD hS hN (lv_sub hl [1, 2, 0, 3] rfl)
    obtain ⟨n_5, h⟩ := h
    exact LP_5 n_5 S i0 a1 0 15 H locs _ h hP hD hS hN (lv_sub hl [2, 3, 1, 0] rfl)
  exact key _ _ hP va_S.rf

def wl_J7_fill_53178_k27_5 (K_20 : CST → Prop) (Post : CST → Prop) : Nat → CST → Nat → Int32 → Int32 → Int32 → Prop
  | 0, _, _, _, _, _ => False
  | n_5 + 1, S_5, y5_0, x5_1, x5_2, x5_3 => ((x5_3 ≤ x5_2) → ((K_20 S_5 ))) ∧ ((¬ (x5_3 ≤ x5_2)) → (cin S_5 27 y5_0 ∧ vp_in x5_2 60 ∧ (∀ S4 : CST, S4 = cs S_5 270 y5_0 (upd (cv S_5 270 y5_0) (x5_2 : Int32).toNatClampNeg x5_1) → (wl_J7_fill_53178_k27_5 K_20 Post n_5 S4 y5_0 x5_1 (x5_2 + 1) x5_3))))
def wp_J7_fill_53178_k27 (S : CST) (i0 : Nat) (a1 : Int32) (Post : CST → Prop) : Prop :=
  cin S 27 i0 ∧ (∃ n_5, wl_J7_fill_53178_k27_5 (fun S_20 => Post S_20) Post n_5 S i0 a1 0 60)
def zw_zd_J7_fill_53178_k27 : List Cond := .code yJ7_fill_53178 cJ7_fill_53178 4 none :: ((([] : List Cond)))
set_option maxHeartbeats 16000000 in
set_option maxRecDepth 100000 in
theorem zd_J7_fill_53178_k27 (l : Launch) (D : va_G) (cI cZ cP cF : Nat) (q : Nat → Nat → Nat) (S : CST) (i0 : Nat) (a1 : Int32) (sz : Nat) (Post : CST → Prop) (h : wp_J7_fill_53178_k27 S i0 a1 Post) : Met l yJ7_fill_53178 zw_zd_J7_fill_53178_k27 ({ frames := 0, cells := 0, slots := 0, locals := 0 }) (va_Pc [.ref (q 27 i0), .int a1] (fun U => U.heap.size = sz ∧ va_P D vwCl (cW cI cZ cP cF q S) U.heap ∧ zF D cI cZ cP cF U ∧ va_D (fun _ => True) (cW cI cZ cP cF q S))) (va_Qv (fun S' => Post S') (fun (S' : CST) t => va_P D vwCl (cW cI cZ cP cF q S') t.heap ∧ va_D (va_A (cW cI cZ cP cF q S) sz) (cW cI cZ cP cF q S') ∧ S'.2 = S.2) (va_A (cW cI cZ cP cF q S) sz)) 0 0 (va_A (cW cI cZ cP cF q S) sz) := by
  unfold wp_J7_fill_53178_k27 at h
  refine Met.ofW (cc := cJ7_fill_53178) (maxL := 4) (ret := none) (by decide) rfl ?_
  intro p e s m args below meth c s₁ B hml hv
  obtain ⟨rfl, hsz, hP, hE, hD0⟩ := hv
  have hx := B.exec
  have hb := B.bytes
  have hr := B.returns
  have hts := atoms_spec (ws := zw_zd_J7_fill_53178_k27) B.pre
  have hown : s.vm.findClass RJ7 = some m.cls := findClass_of_methodNamed B.named
  have hlocks := B.notSynchronized
  have hK := hE.k
  subst hsz
  have hD := hD0.self (sz := s.heap.size)
  generalize hAe : va_A (cW cI cZ cP cF q S) s.heap.size = A at hD ⊢
  have hA : ∀ q : Nat, s.heap.size ≤ q → A q := fun q h => by rw [← hAe]; exact Or.inr h
  have hN : S.2 = S.2 := rfl
  have hl := lv_entry ([.ref (q 27 i0), .int a1]) (n := 4) (Nat.le_of_ble_eq_true rfl)
  rw [lg_entry_eq]
  generalize (lg_sl ([.ref (q 27 i0), .int a1]) ++ List.replicate (4 - (lg_sl ([.ref (q 27 i0), .int a1])).length) Slot.unset).toArray = ls at hl ⊢
  have hl : lv_has ls 4 [(0, .ref (q 27 i0)), (1, .int a1)] := hl
  have key : ∀ (H : Heap) (locs : List Loc), va_P D vwCl (cW cI cZ cP cF q S) H → va_S A s.heap H locs → W p l e (headSpec zw_zd_J7_fill_53178_k27 ({ frames := 0, cells := 0, slots := 0, locals := 0 })).room s m ([.ref (q 27 i0), .int a1] : List Value).toArray below meth c H locs 0 0 (MQ below (va_Qv (fun S' => Post S') (fun (S' : CST) t => va_P D vwCl (cW cI cZ cP cF q S') t.heap ∧ va_D A (cW cI cZ cP cF q S') ∧ S'.2 = S.2) A) ([.ref (q 27 i0), .int a1] : List Value).toArray s 0 0 A) (F0 m 0 ls []) := by
    intro H locs hP hS
    refine lv_iconst (v := 0) hx hb dJ7_fill_53178_0 (by decide) ?_
    refine lv_istore_n (lv' := [(2, .int 0), (0, .ref (q 27 i0)), (1, .int a1)]) hx hb dJ7_fill_53178_1 rfl hl (by decide) rfl (fun ls hl => ?_)
    refine lv_aload_n hx hb dJ7_fill_53178_2 rfl (lv_at hl 1 rfl) ?_
    have hi_1 := h.1
    have h := h.2
    obtain ⟨p_1, hp_1⟩ := cget_27 cI cZ cP cF q S hi_1
    refine va_alen hx hb hK hP p_1 0 hp_1 rfl (v := 60) rfl dJ7_fill_53178_3 ?_
    refine lv_istore_n (lv' := [(3, .int 60), (2, .int 0), (0, .ref (q 27 i0)), (1, .int a1)]) hx hb dJ7_fill_53178_4 rfl hl (by decide) rfl (fun ls hl => ?_)
    have EX_5_20 : ∀ (S_20 : CST) (H : Heap) (locs : List Loc) (ls : Array Slot), (Post S_20) → va_P D vwCl (cW cI cZ cP cF q S_20) H → va_D A (cW cI cZ cP cF q S_20) → va_S A s.heap H locs → S_20.2 = S.2 → lv_has ls 4 [] → W p l e (headSpec zw_zd_J7_fill_53178_k27 ({ frames := 0, cells := 0, slots := 0, locals := 0 })).room s m ([.ref (q 27 i0), .int a1] : List Value).toArray below meth c H locs 0 0 (MQ below (va_Qv (fun S' => Post S') (fun (S' : CST) t => va_P D vwCl (cW cI cZ cP cF q S') t.heap ∧ va_D A (cW cI cZ cP cF q S') ∧ S'.2 = S.2) A) ([.ref (q 27 i0), .int a1] : List Value).toArray s 0 0 A) (F0 m 20 ls []) := by
      intro S_20  H locs ls h hP hD hS hN hl
      exact W.vret hx hb hr (fun t ht hW => ⟨⟨S_20, rfl, h, by rw [ht]; exact hP, hD, hN⟩, hS.F ht⟩) hS.2.2 dJ7_fill_53178_20
    have LP_5 : ∀ (n_5 : Nat), ∀ (S_5 : CST) (y5_0 : Nat) (x5_1 : Int32) (x5_2 : Int32) (x5_3 : Int32) (H : Heap) (locs : List Loc) (ls : Array Slot), wl_J7_fill_53178_k27_5 (fun S_20 => Post S_20) Post n_5 S_5 y5_0 x5_1 x5_2 x5_3 → va_P D vwCl (cW cI cZ cP cF q S_5) H → va_D A (cW cI cZ cP cF q S_5) → va_S A s.heap H locs → S_5.2 = S.2 → lv_has ls 4 [(0, .ref (q 27 y5_0)), (1, .int x5_1), (2, .int x5_2), (3, .int x5_3)] → W p l e (headSpec zw_zd_J7_fill_53178_k27 ({ frames := 0, cells := 0, slots := 0, locals := 0 })).room s m ([.ref (q 27 i0), .int a1] : List Value).toArray below meth c H locs 0 0 (MQ below (va_Qv (fun S' => Post S') (fun (S' : CST) t => va_P D vwCl (cW cI cZ cP cF q S') t.heap ∧ va_D A (cW cI cZ cP cF q S') ∧ S'.2 = S.2) A) ([.ref (q 27 i0), .int a1] : List Value).toArray s 0 0 A) (F0 m 5 ls []) := by
      intro n_5
      induction n_5 with
      | zero =>
        intro S_5 y5_0 x5_1 x5_2 x5_3 H locs ls h hP hD hS hN hl
        exact False.elim h
      | succ n_5 ih_5 =>
        intro S_5 y5_0 x5_1 x5_2 x5_3 H locs ls h hP hD hS hN hl
        unfold wl_J7_fill_53178_k27_5 at h
        refine lv_iload_n hx hb dJ7_fill_53178_5 rfl (lv_at hl 2 rfl) ?_
        refine lv_iload_n hx hb dJ7_fill_53178_6 rfl (lv_at hl 3 rfl) ?_
        refine lv_icmp_ge (tgt := 20) hx hb dJ7_fill_53178_7 (by decide) (fun c_2 => ?_) (fun c_2 => ?_)
        · have h := h.1 c_2
          exact EX_5_20  S_5  H locs _ h hP hD hS hN (lv_sub hl [] rfl)
        · have h := h.2 c_2
          refine lv_aload_n hx hb dJ7_fill_53178_10 rfl (lv_at hl 0 rfl) ?_
          refine lv_iload_n hx hb dJ7_fill_53178_11 rfl (lv_at hl 2 rfl) ?_
          refine lv_iload_n hx hb dJ7_fill_53178_12 rfl (lv_at hl 1 rfl) ?_
          have hi_3 := h.1
          have h := h.2
          obtain ⟨p_3, hp_3⟩ := cget_27 cI cZ cP cF q S_5 hi_3
          have hin_3 := h.1
          have h := h.2
          have hD0_3 := hD
          refine va_iast hx hb hK hP hD hS p_3 0 hp_3 rfl hin_3 dJ7_fill_53178_13 (fun H locs hP hD hS => ?_)
          obtain ⟨S4, eS4⟩ : ∃ z, z = cs S_5 270 y5_0 (upd (cv S_5 270 y5_0) (x5_2 : Int32).toNatClampNeg x5_1) := ⟨_, rfl⟩
          have hP : va_P D vwCl (cW cI cZ cP cF q S4) H := by rw [eS4, ← cW_put (k := 270) (κ := 27) (i := y5_0) (g := (upd (cv S_5 270 y5_0) (x5_2 : Int32).toNatClampNeg x5_1)) rfl hD0_3 hp_3 hi_3, cput_270]; exact hP
          have hD : va_D A (cW cI cZ cP cF q S4) := by rw [eS4, ← cW_put (k := 270) (κ := 27) (i := y5_0) (g := (upd (cv S_5 270 y5_0) (x5_2 : Int32).toNatClampNeg x5_1)) rfl hD0_3 hp_3 hi_3, cput_270]; exact hD
          have hN : S4.2 = S.2 := by rw [eS4]; exact hN
          have h := h S4 eS4
          refine lv_iinc (v := x5_2 + 1) (lv' := [(2, .int (x5_2 + 1)), (0, .ref (q 27 y5_0)), (1, .int x5_1), (3, .int x5_3)]) hx hb dJ7_fill_53178_14 hl (k := 2) rfl rfl (by decide) rfl (fun ls hl => ?_)
          refine lv_goto (tgt := 5) hx hb dJ7_fill_53178_17 (by decide) ?_
          exact ih_5  S4 y5_0 x5_1 (x5_2 + 1) x5_3 H locs _ h hP hD hS hN (lv_sub hl [1, 2, 0, 3] rfl)
    obtain ⟨n_5, h⟩ := h
    exact LP_5 n_5 S i0 a1 0 60 H locs _ h hP hD hS hN (lv_sub hl [2, 3, 1, 0] rfl)
  exact key _ _ hP va_S.rf

def wl_J7_fill_fda19_k6_10 (K_27 : CST → Prop) (Post : CST → Prop) : Nat → CST → Int32 → Int32 → Int32 → Prop
  | 0, _, _, _, _ => False
  | n_10 + 1, S_10, x10_2, x10_3, x10_4 => ((x10_2 ≤ x10_4) → ((K_27 S_10 ))) ∧ ((¬ (x10_2 ≤ x10_4)) → (vp_in x10_4 80 ∧ (∀ S5 : CST, S5 = cs S_10 60 0 (upd (cv S_10 60 0) (x10_4 : Int32).toNatClampNeg x10_3) → (wl_J7_fill_fda19_k6_10 K_27 Post n_10 S5 x10_2 x10_3 (x10_4 + 1)))))
def wp_J7_fill_fda19_k6 (S : CST) (a1 : Int32) (a2 : Int32) (a3 : Int32) (Post : CST → Prop) : Prop :=
  wp_J7_rangeCheck_23922 80 a1 a2 (∃ n_10, wl_J7_fill_fda19_k6_10 (fun S_27 => Post S_27) Post n_10 S a2 a3 a1)
def zw_zd_J7_fill_fda19_k6_w0 : List Cond := [.code yJ7_rangeCheck_23922 cJ7_rangeCheck_23922 3 none, .methodLink RJ7 13 yJ7_rangeCheck_23922, .static yJ7_rangeCheck_23922, .initialized RJ7]
def zw_zd_J7_fill_fda19_k6 : List Cond := .code yJ7_fill_fda19 cJ7_fill_fda19 5 none :: ((zw_zd_J7_fill_fda19_k6_w0))
set_option maxRecDepth 100000 in
theorem zg_zd_J7_fill_fda19_k6_zd_J7_rangeCheck_23922_13_a : GoodIn zw_zd_J7_fill_fda19_k6 [.methodLink RJ7 13 yJ7_rangeCheck_23922, .static yJ7_rangeCheck_23922, .initialized RJ7] := goodIn_r _ [2, 3, 4] rfl (by decide +kernel)
set_option maxRecDepth 100000 in
theorem zg_zd_J7_fill_fda19_k6_zd_J7_rangeCheck_23922_13_c : GoodIn zw_zd_J7_fill_fda19_k6 [.code yJ7_rangeCheck_23922 cJ7_rangeCheck_23922 3 none] := goodIn_r _ [1] rfl (by decide +kernel)
theorem zg_zd_J7_fill_fda19_k6_zd_J7_rangeCheck_23922_13 : GoodIn zw_zd_J7_fill_fda19_k6 (va_wsS RJ7 13 yJ7_rangeCheck_23922 zw_zd_J7_rangeCheck_23922) := goodIn_app zg_zd_J7_fill_fda19_k6_zd_J7_rangeCheck_23922_13_a (show GoodIn zw_zd_J7_fill_fda19_k6 (.code yJ7_rangeCheck_23922 cJ7_rangeCheck_23922 3 none :: (([] : List Cond))) from zg_zd_J7_fill_fda19_k6_zd_J7_rangeCheck_23922_13_c)
set_option maxHeartbeats 16000000 in
set_option maxRecDepth 100000 in
theorem zd_J7_fill_fda19_k6 (l : Launch) (D : va_G) (cI cZ cP cF : Nat) (q : Nat → Nat → Nat) (S : CST) (a1 : Int32) (a2 : Int32) (a3 : Int32) (sz : Nat) (Post : CST → Prop) (h : wp_J7_fill_fda19_k6 S a1 a2 a3 Post) : Met l yJ7_fill_fda19 zw_zd_J7_fill_fda19_k6 ({ frames := 1, cells := 0, slots := 0, locals := 22 }) (va_Pc [.ref (q 6 0), .int a1, .int a2, .int a3] (fun U => U.heap.size = sz ∧ va_P D vwCl (cW cI cZ cP cF q S) U.heap ∧ zF D cI cZ cP cF U ∧ va_D (fun _ => True) (cW cI cZ cP cF q S))) (va_Qv (fun S' => Post S') (fun (S' : CST) t => va_P D vwCl (cW cI cZ cP cF q S') t.heap ∧ va_D (va_A (cW cI cZ cP cF q S) sz) (cW cI cZ cP cF q S') ∧ S'.2 = S.2) (va_A (cW cI cZ cP cF q S) sz)) 0 0 (va_A (cW cI cZ cP cF q S) sz) := by
  unfold wp_J7_fill_fda19_k6 at h
  refine Met.ofW (cc := cJ7_fill_fda19) (maxL := 5) (ret := none) (by decide) rfl ?_
  intro p e s m args below meth c s₁ B hml hv
  obtain ⟨rfl, hsz, hP, hE, hD0⟩ := hv
  have hx := B.exec
  have hb := B.bytes
  have hr := B.returns
  have hts := atoms_spec (ws := zw_zd_J7_fill_fda19_k6) B.pre
  have hown : s.vm.findClass RJ7 = some m.cls := findClass_of_methodNamed B.named
  have hlocks := B.notSynchronized
  have hK := hE.k
  subst hsz
  have hD := hD0.self (sz := s.heap.size)
  generalize hAe : va_A (cW cI cZ cP cF q S) s.heap.size = A at hD ⊢
  have hA : ∀ q : Nat, s.heap.size ≤ q → A q := fun q h => by rw [← hAe]; exact Or.inr h
  have hN : S.2 = S.2 := rfl
  have hl := lv_entry ([.ref (q 6 0), .int a1, .int a2, .int a3]) (n := 5) (Nat.le_of_ble_eq_true rfl)
  rw [lg_entry_eq]
  generalize (lg_sl ([.ref (q 6 0), .int a1, .int a2, .int a3]) ++ List.replicate (5 - (lg_sl ([.ref (q 6 0), .int a1, .int a2, .int a3])).length) Slot.unset).toArray = ls at hl ⊢
  have hl : lv_has ls 5 [(0, .ref (q 6 0)), (1, .int a1), (2, .int a2), (3, .int a3)] := hl
  have key : ∀ (H : Heap) (locs : List Loc), va_P D vwCl (cW cI cZ cP cF q S) H → va_S A s.heap H locs → W p l e (headSpec zw_zd_J7_fill_fda19_k6 ({ frames := 1, cells := 0, slots := 0, locals := 22 })).room s m ([.ref (q 6 0), .int a1, .int a2, .int a3] : List Value).toArray below meth c H locs 0 0 (MQ below (va_Qv (fun S' => Post S') (fun (S' : CST) t => va_P D vwCl (cW cI cZ cP cF q S') t.heap ∧ va_D A (cW cI cZ cP cF q S') ∧ S'.2 = S.2) A) ([.ref (q 6 0), .int a1, .int a2, .int a3] : List Value).toArray s 0 0 A) (F0 m 0 ls []) := by
    intro H locs hP hS
    refine lv_aload_n hx hb dJ7_fill_fda19_0 rfl (lv_at hl 0 rfl) ?_
    obtain ⟨p_1, hp_1⟩ := cget_6 cI cZ cP cF q S
    have hi_1 : cin S 6 0 := Or.inl ⟨by decide, rfl⟩
    refine va_alen hx hb hK hP p_1 0 hp_1 rfl (v := 80) rfl dJ7_fill_fda19_1 ?_
    refine lv_iload_n hx hb dJ7_fill_fda19_2 rfl (lv_at hl 1 rfl) ?_
    refine lv_iload_n hx hb dJ7_fill_fda19_3 rfl (lv_at hl 2 rfl) ?_
    have hP0 : va_P D vwCl [] H := fun k q h => by simp at h
    refine va_csv (va_Run.run (va_runS (As := [.int 80, .int a1, .int a2]) (rest := []) ⟨hx, hb, hml, hown, hts⟩ (zd_J7_rangeCheck_23922 l D cI cZ cP cF 80 a1 a2  _ h) (va_cwS 3 hts zg_zd_J7_fill_fda19_k6_zd_J7_rangeCheck_23922_13 rfl rfl rfl (by decide +kernel) ⟨Nat.le_of_ble_eq_true rfl, Nat.le_of_ble_eq_true rfl⟩) ⟨zCR, fun U hU hW => ⟨rfl, by rw [hU]; exact hP0, hE.warm hW⟩⟩ rfl rfl hl.1 rfl (lv_room (Nat.le_of_ble_eq_true rfl)) dJ7_fill_fda19_4 ⟨Nat.le_of_ble_eq_true rfl, Nat.le_of_ble_eq_true rfl⟩)) (fun h => ?_)
    refine lv_iload_n hx hb dJ7_fill_fda19_7 rfl (lv_at hl 1 rfl) ?_
    refine lv_istore (lv' := [(4, .int a1), (0, .ref (q 6 0)), (1, .int a1), (2, .int a2), (3, .int a3)]) hx hb dJ7_fill_fda19_8 hl (by decide) rfl (fun ls hl => ?_)
    have EX_10_27 : ∀ (S_27 : CST) (H : Heap) (locs : List Loc) (ls : Array Slot), (Post S_27) → va_P D vwCl (cW cI cZ cP cF q S_27) H → va_D A (cW cI cZ cP cF q S_27) → va_S A s.heap H locs → S_27.2 = S.2 → lv_has ls 5 [] → W p l e (headSpec zw_zd_J7_fill_fda19_k6 ({ frames := 1, cells := 0, slots := 0, locals := 22 })).room s m ([.ref (q 6 0), .int a1, .int a2, .int a3] : List Value).toArray below meth c H locs 0 0 (MQ below (va_Qv (fun S' => Post S') (fun (S' : CST) t => va_P D vwCl (cW cI cZ cP cF q S') t.heap ∧ va_D A (cW cI cZ cP cF q S') ∧ S'.2 = S.2) A) ([.ref (q 6 0), .int a1, .int a2, .int a3] : List Value).toArray s 0 0 A) (F0 m 27 ls []) := by
      intro S_27  H locs ls h hP hD hS hN hl
      exact W.vret hx hb hr (fun t ht hW => ⟨⟨S_27, rfl, h, by rw [ht]; exact hP, hD, hN⟩, hS.F ht⟩) hS.2.2 dJ7_fill_fda19_27
    have LP_10 : ∀ (n_10 : Nat), ∀ (S_10 : CST) (x10_2 : Int32) (x10_3 : Int32) (x10_4 : Int32) (H : Heap) (locs : List Loc) (ls : Array Slot), wl_J7_fill_fda19_k6_10 (fun S_27 => Post S_27) Post n_10 S_10 x10_2 x10_3 x10_4 → va_P D vwCl (cW cI cZ cP cF q S_10) H → va_D A (cW cI cZ cP cF q S_10) → va_S A s.heap H locs → S_10.2 = S.2 → lv_has ls 5 [(0, .ref (q 6 0)), (2, .int x10_2), (3, .int x10_3), (4, .int x10_4)] → W p l e (headSpec zw_zd_J7_fill_fda19_k6 ({ frames := 1, cells := 0, slots := 0, locals := 22 })).room s m ([.ref (q 6 0), .int a1, .int a2, .int a3] : List Value).toArray below meth c H locs 0 0 (MQ below (va_Qv (fun S' => Post S') (fun (S' : CST) t => va_P D vwCl (cW cI cZ cP cF q S') t.heap ∧ va_D A (cW cI cZ cP cF q S') ∧ S'.2 = S.2) A) ([.ref (q 6 0), .int a1, .int a2, .int a3] : List Value).toArray s 0 0 A) (F0 m 10 ls []) := by
      intro n_10
      induction n_10 with
      | zero =>
        intro S_10 x10_2 x10_3 x10_4 H locs ls h hP hD hS hN hl
        exact False.elim h
      | succ n_10 ih_10 =>
        intro S_10 x10_2 x10_3 x10_4 H locs ls h hP hD hS hN hl
        unfold wl_J7_fill_fda19_k6_10 at h
        refine lv_iload hx hb dJ7_fill_fda19_10 (lv_at hl 3 rfl) ?_
        refine lv_iload_n hx hb dJ7_fill_fda19_12 rfl (lv_at hl 1 rfl) ?_
        refine lv_icmp_ge (tgt := 27) hx hb dJ7_fill_fda19_13 (by decide) (fun c_3 => ?_) (fun c_3 => ?_)
        · have h := h.1 c_3
          exact EX_10_27  S_10  H locs _ h hP hD hS hN (lv_sub hl [] rfl)
        · have h := h.2 c_3
          refine lv_aload_n hx hb dJ7_fill_fda19_16 rfl (lv_at hl 0 rfl) ?_
          refine lv_iload hx hb dJ7_fill_fda19_17 (lv_at hl 3 rfl) ?_
          refine lv_iload_n hx hb dJ7_fill_fda19_19 rfl (lv_at hl 2 rfl) ?_
          obtain ⟨p_4, hp_4⟩ := cget_6 cI cZ cP cF q S_10
          have hi_4 : cin S_10 6 0 := Or.inl ⟨by decide, rfl⟩
          have hin_4 := h.1
          have h := h.2
          have hD0_4 := hD
          refine va_iast hx hb hK hP hD hS p_4 0 hp_4 rfl hin_4 dJ7_fill_fda19_20 (fun H locs hP hD hS => ?_)
          obtain ⟨S5, eS5⟩ : ∃ z, z = cs S_10 60 0 (upd (cv S_10 60 0) (x10_4 : Int32).toNatClampNeg x10_3) := ⟨_, rfl⟩
          have hP : va_P D vwCl (cW cI cZ cP cF q S5) H := by rw [eS5, ← cW_put (k := 60) (κ := 6) (i := 0) (g := (upd (cv S_10 60 0) (x10_4 : Int32).toNatClampNeg x10_3)) rfl hD0_4 hp_4 hi_4, cput_60]; exact hP
          have hD : va_D A (cW cI cZ cP cF q S5) := by rw [eS5, ← cW_put (k := 60) (κ := 6) (i := 0) (g := (upd (cv S_10 60 0) (x10_4 : Int32).toNatClampNeg x10_3)) rfl hD0_4 hp_4 hi_4, cput_60]; exact hD
          have hN : S5.2 = S.2 := by rw [eS5]; exact hN
          have h := h S5 eS5
          refine lv_iinc (v := x10_4 + 1) (lv' := [(4, .int (x10_4 + 1)), (0, .ref (q 6 0)), (2, .int x10_2), (3, .int x10_3)]) hx hb dJ7_fill_fda19_21 hl (k := 3) rfl rfl (by decide) rfl (fun ls hl => ?_)
          refine lv_goto (tgt := 10) hx hb dJ7_fill_fda19_24 (by decide) ?_
          exact ih_10  S5 x10_2 x10_3 (x10_4 + 1) H locs _ h hP hD hS hN (lv_sub hl [1, 2, 3, 0] rfl)
    obtain ⟨n_10, h⟩ := h
    exact LP_10 n_10 S a2 a3 a1 H locs _ h hP hD hS hN (lv_sub hl [1, 3, 4, 0] rfl)
  exact key _ _ hP va_S.rf

def wp_X0_at (S : CST) (a1 : Int32) (Post : Int32 → Prop) : Prop :=
  (((a1 : Int32) < 0) → (Post (-1))) ∧ ((¬ ((a1 : Int32) < 0)) → ((((cv S 11 0 0) ≤ a1) → (Post (-1))) ∧ ((¬ ((cv S 11 0 0) ≤ a1)) → (((8 ≤ a1) → (Post (-1))) ∧ ((¬ (8 ≤ a1)) → (vp_in a1 8 ∧ ((((cv S 20 0 (a1 : Int32).toNatClampNeg) < 0) → (Post (-1))) ∧ ((¬ ((cv S 20 0 (a1 : Int32).toNatClampNeg) < 0)) → (Post (cv S 20 0 (a1 : Int32).toNatClampNeg))))))))))
def zw_zd_X0_at_w0 : List Cond := [.fieldLink RX0 17 "TemplateForge$Book" "told" "I", .fieldLink RX0 11 "TemplateForge$Book" "programs" "[LTemplateForge$Program;"]
def zw_zd_X0_at : List Cond := .code yX0_at cX0_at 2 (some (.object "TemplateForge$Program")) :: ((zw_zd_X0_at_w0) ++ wsX00)
set_option maxHeartbeats 16000000 in
set_option maxRecDepth 100000 in
theorem zd_X0_at (l : Launch) (D : va_G) (cI cZ cP cF : Nat) (q : Nat → Nat → Nat) (S : CST) (a1 : Int32) (Post : Int32 → Prop) (h : wp_X0_at S a1 Post) : Met l yX0_at zw_zd_X0_at ({ frames := 0, cells := 0, slots := 0, locals := 0 }) (va_Pc [.ref (q 1 0), .int a1] (fun U => va_P D vwCl (cW cI cZ cP cF q S) U.heap ∧ zF D cI cZ cP cF U)) (va_Sq (fun o => ∃ r : Int32, o = cno q 24 r ∧ Post r)) 0 0 (fun _ => False) := by
  unfold wp_X0_at at h
  refine Met.ofW (cc := cX0_at) (maxL := 2) (ret := (some (.object "TemplateForge$Program"))) (by decide) rfl ?_
  intro p e s m args below meth c s₁ B hml hv
  obtain ⟨rfl, hP, hE⟩ := hv
  have hx := B.exec
  have hb := B.bytes
  have hr := B.returns
  have hts := atoms_spec (ws := zw_zd_X0_at) B.pre
  have hown : s.vm.findClass RX0 = some m.cls := findClass_of_methodNamed B.named
  have hlocks := B.notSynchronized
  have hK := hE.k
  have hl := lv_entry ([.ref (q 1 0), .int a1]) (n := 2) (Nat.le_of_ble_eq_true rfl)
  rw [lg_entry_eq]
  generalize (lg_sl ([.ref (q 1 0), .int a1]) ++ List.replicate (2 - (lg_sl ([.ref (q 1 0), .int a1])).length) Slot.unset).toArray = ls at hl ⊢
  have hl : lv_has ls 2 [(0, .ref (q 1 0)), (1, .int a1)] := hl
  refine lv_iload_n hx hb dX0_at_0 rfl (lv_at hl 1 rfl) ?_
  refine lv_if_lt (tgt := 27) hx hb dX0_at_1 (by decide) (fun c_1 => ?_) (fun c_1 => ?_)
  · have h := h.1 c_1
    refine lv_null hx hb dX0_at_27 ?_
    exact W.aret hx hb hr (Or.inl ⟨_, rfl⟩) (Or.inl rfl) (fun t ht hW => ⟨none, rfl, ⟨-1, (if_pos (by decide)).symm, h⟩, ht⟩) (fun q h => by cases h) dX0_at_28
  · have h := h.2 c_1
    refine lv_iload_n hx hb dX0_at_4 rfl (lv_at hl 1 rfl) ?_
    refine lv_aload_n hx hb dX0_at_5 rfl (lv_at hl 0 rfl) ?_
    obtain ⟨p_2, hp_2⟩ := cget_1 cI cZ cP cF q S
    have hi_2 : cin S 1 0 := Or.inl ⟨by decide, rfl⟩
    refine va_get (D := D) (ci := 0) (v := .int (cv S 11 0 0)) (C := RX0) (T := TX0) (N := 2) hx hb hts (fun _ h => List.mem_cons_of_mem _ (List.mem_append_right _ h)) hown hK hP p_2 hp_2 rfl 1 (by decide) (hts (.fieldLink RX0 17 "TemplateForge$Book" "told" "I") (List.mem_of_getElem? (i := 1) rfl)) (fun _ h9 => h9) rfl dX0_at_6 ?_
    refine lv_icmp_ge (tgt := 27) hx hb dX0_at_9 (by decide) (fun c_3 => ?_) (fun c_3 => ?_)
    · have h := h.1 c_3
      refine lv_null hx hb dX0_at_27 ?_
      exact W.aret hx hb hr (Or.inl ⟨_, rfl⟩) (Or.inl rfl) (fun t ht hW => ⟨none, rfl, ⟨-1, (if_pos (by decide)).symm, h⟩, ht⟩) (fun q h => by cases h) dX0_at_28
    · have h := h.2 c_3
      refine lv_iload_n hx hb dX0_at_12 rfl (lv_at hl 1 rfl) ?_
      refine lv_bipush (v := 8) hx hb dX0_at_13 (by decide) ?_
      refine lv_icmp_ge (tgt := 27) hx hb dX0_at_15 (by decide) (fun c_4 => ?_) (fun c_4 => ?_)
      · have h := h.1 c_4
        refine lv_null hx hb dX0_at_27 ?_
        exact W.aret hx hb hr (Or.inl ⟨_, rfl⟩) (Or.inl rfl) (fun t ht hW => ⟨none, rfl, ⟨-1, (if_pos (by decide)).symm, h⟩, ht⟩) (fun q h => by cases h) dX0_at_28
      · have h := h.2 c_4
        refine lv_aload_n hx hb dX0_at_18 rfl (lv_at hl 0 rfl) ?_
        obtain ⟨p_5, hp_5⟩ := cget_1 cI cZ cP cF q S
        have hi_5 : cin S 1 0 := Or.inl ⟨by decide, rfl⟩
        refine va_get (D := D) (ci := 0) (v := .ref (q 2 0)) (C := RX0) (T := TX0) (N := 2) hx hb hts (fun _ h => List.mem_cons_of_mem _ (List.mem_append_right _ h)) hown hK hP p_5 hp_5 rfl 0 (by decide) (hts (.fieldLink RX0 11 "TemplateForge$Book" "programs" "[LTemplateForge$Program;") (List.mem_of_getElem? (i := 2) rfl)) (fun _ h9 => h9) rfl dX0_at_19 ?_
        refine lv_iload_n hx hb dX0_at_22 rfl (lv_at hl 1 rfl) ?_
        obtain ⟨p_6, hp_6⟩ := cget_2 cI cZ cP cF q S
        have hi_6 : cin S 2 0 := Or.inl ⟨by decide, rfl⟩
        have hin_6 := h.1
        have h := h.2
        refine va_aldq hx hb hK hP p_6 2 hp_6 rfl hin_6 dX0_at_23 ?_
        by_cases hn_7 : (cv S 20 0 (a1 : Int32).toNatClampNeg) < 0
        · have h := h.1 hn_7
          rw [show va_rf (cno q 24 (cv S 20 0 (a1 : Int32).toNatClampNeg)) = .null from cn_neg hn_7]
          refine lv_goto (tgt := 28) hx hb dX0_at_24 (by decide) ?_
          exact W.aret hx hb hr (Or.inl ⟨_, rfl⟩) (Or.inl rfl) (fun t ht hW => ⟨none, rfl, ⟨-1, (if_pos (by decide)).symm, h⟩, ht⟩) (fun q h => by cases h) dX0_at_28
        · have h := h.2 hn_7
          rw [show va_rf (cno q 24 (cv S 20 0 (a1 : Int32).toNatClampNeg)) = .ref (q 24 ((cv S 20 0 (a1 : Int32).toNatClampNeg) : Int32).toNatClampNeg) from cn_pos hn_7]
          refine lv_goto (tgt := 28) hx hb dX0_at_24 (by decide) ?_
          exact W.aret hx hb hr (Or.inl ⟨_, rfl⟩) (Or.inr ⟨_, rfl⟩) (fun t ht hW => ⟨some _, rfl, ⟨(cv S 20 0 (a1 : Int32).toNatClampNeg), (if_neg hn_7).symm, h⟩, ht⟩) (fun q h => by cases h) dX0_at_28

def wp_X7_latestFrame (S : CST) (Post : Int32 → Prop) : Prop :=
  ((((cv S 126 0 0) : Int32) ≤ 0) → (Post (-1))) ∧ ((¬ (((cv S 126 0 0) : Int32) ≤ 0)) → (((16 < (cv S 126 0 0)) → (Post (-1))) ∧ ((¬ (16 < (cv S 126 0 0))) → (vp_in ((cv S 126 0 0) - 1) 16 ∧ (Post ((cv S 126 0 0) - 1))))))
def zw_zd_X7_latestFrame_w0 : List Cond := [.fieldLink RX7 49 "TemplateForge$Machine" "open" "I", .fieldLink RX7 20 "TemplateForge$Machine" "frames" "[LTemplateForge$Frame;"]
def zw_zd_X7_latestFrame : List Cond := .code yX7_latestFrame cX7_latestFrame 1 (some (.object "TemplateForge$Frame")) :: ((zw_zd_X7_latestFrame_w0) ++ wsX70)
set_option maxHeartbeats 16000000 in
set_option maxRecDepth 100000 in
theorem zd_X7_latestFrame (l : Launch) (D : va_G) (cI cZ cP cF : Nat) (q : Nat → Nat → Nat) (S : CST) (Post : Int32 → Prop) (h : wp_X7_latestFrame S Post) : Met l yX7_latestFrame zw_zd_X7_latestFrame ({ frames := 0, cells := 0, slots := 0, locals := 0 }) (va_Pc [.ref (q 12 0)] (fun U => va_P D vwCl (cW cI cZ cP cF q S) U.heap ∧ zF D cI cZ cP cF U)) (va_Sq (fun o => ∃ r : Int32, o = cno q 22 r ∧ Post r)) 0 0 (fun _ => False) := by
  unfold wp_X7_latestFrame at h
  refine Met.ofW (cc := cX7_latestFrame) (maxL := 1) (ret := (some (.object "TemplateForge$Frame"))) (by decide) rfl ?_
  intro p e s m args below meth c s₁ B hml hv
  obtain ⟨rfl, hP, hE⟩ := hv
  have hx := B.exec
  have hb := B.bytes
  have hr := B.returns
  have hts := atoms_spec (ws := zw_zd_X7_latestFrame) B.pre
  have hown : s.vm.findClass RX7 = some m.cls := findClass_of_methodNamed B.named
  have hlocks := B.notSynchronized
  have hK := hE.k
  have hl := lv_entry ([.ref (q 12 0)]) (n := 1) (Nat.le_of_ble_eq_true rfl)
  rw [lg_entry_eq]
  generalize (lg_sl ([.ref (q 12 0)]) ++ List.replicate (1 - (lg_sl ([.ref (q 12 0)])).length) Slot.unset).toArray = ls at hl ⊢
  have hl : lv_has ls 1 [(0, .ref (q 12 0))] := hl
  refine lv_aload_n hx hb dX7_latestFrame_0 rfl (lv_at hl 0 rfl) ?_
  obtain ⟨p_1, hp_1⟩ := cget_12 cI cZ cP cF q S
  have hi_1 : cin S 12 0 := Or.inl ⟨by decide, rfl⟩
  refine va_get (D := D) (ci := 7) (v := .int (cv S 126 0 0)) (C := RX7) (T := TX7) (N := 10) hx hb hts (fun _ h => List.mem_cons_of_mem _ (List.mem_append_right _ h)) hown hK hP p_1 hp_1 rfl 6 (by decide) (hts (.fieldLink RX7 49 "TemplateForge$Machine" "open" "I") (List.mem_of_getElem? (i := 1) rfl)) (fun _ h9 => h9) rfl dX7_latestFrame_1 ?_
  refine lv_if_le (tgt := 30) hx hb dX7_latestFrame_4 (by decide) (fun c_2 => ?_) (fun c_2 => ?_)
  · have h := h.1 c_2
    refine lv_null hx hb dX7_latestFrame_30 ?_
    exact W.aret hx hb hr (Or.inl ⟨_, rfl⟩) (Or.inl rfl) (fun t ht hW => ⟨none, rfl, ⟨-1, (if_pos (by decide)).symm, h⟩, ht⟩) (fun q h => by cases h) dX7_latestFrame_31
  · have h := h.2 c_2
    refine lv_aload_n hx hb dX7_latestFrame_7 rfl (lv_at hl 0 rfl) ?_
    obtain ⟨p_3, hp_3⟩ := cget_12 cI cZ cP cF q S
    have hi_3 : cin S 12 0 := Or.inl ⟨by decide, rfl⟩
    refine va_get (D := D) (ci := 7) (v := .int (cv S 126 0 0)) (C := RX7) (T := TX7) (N := 10) hx hb hts (fun _ h => List.mem_cons_of_mem _ (List.mem_append_right _ h)) hown hK hP p_3 hp_3 rfl 6 (by decide) (hts (.fieldLink RX7 49 "TemplateForge$Machine" "open" "I") (List.mem_of_getElem? (i := 1) rfl)) (fun _ h9 => h9) rfl dX7_latestFrame_8 ?_
    refine lv_bipush (v := 16) hx hb dX7_latestFrame_11 (by decide) ?_
    refine lv_icmp_gt (tgt := 30) hx hb dX7_latestFrame_13 (by decide) (fun c_4 => ?_) (fun c_4 => ?_)
    · have h := h.1 c_4
      refine lv_null hx hb dX7_latestFrame_30 ?_
      exact W.aret hx hb hr (Or.inl ⟨_, rfl⟩) (Or.inl rfl) (fun t ht hW => ⟨none, rfl, ⟨-1, (if_pos (by decide)).symm, h⟩, ht⟩) (fun q h => by cases h) dX7_latestFrame_31
    · have h := h.2 c_4
      refine lv_aload_n hx hb dX7_latestFrame_16 rfl (lv_at hl 0 rfl) ?_
      obtain ⟨p_5, hp_5⟩ := cget_12 cI cZ cP cF q S
      have hi_5 : cin S 12 0 := Or.inl ⟨by decide, rfl⟩
      refine va_get (D := D) (ci := 7) (v := .ref (q 13 0)) (C := RX7) (T := TX7) (N := 10) hx hb hts (fun _ h => List.mem_cons_of_mem _ (List.mem_append_right _ h)) hown hK hP p_5 hp_5 rfl 4 (by decide) (hts (.fieldLink RX7 20 "TemplateForge$Machine" "frames" "[LTemplateForge$Frame;") (List.mem_of_getElem? (i := 2) rfl)) (fun _ h9 => h9) rfl dX7_latestFrame_17 ?_
      refine lv_aload_n hx hb dX7_latestFrame_20 rfl (lv_at hl 0 rfl) ?_
      obtain ⟨p_6, hp_6⟩ := cget_12 cI cZ cP cF q S
      have hi_6 : cin S 12 0 := Or.inl ⟨by decide, rfl⟩
      refine va_get (D := D) (ci := 7) (v := .int (cv S 126 0 0)) (C := RX7) (T := TX7) (N := 10) hx hb hts (fun _ h => List.mem_cons_of_mem _ (List.mem_append_right _ h)) hown hK hP p_6 hp_6 rfl 6 (by decide) (hts (.fieldLink RX7 49 "TemplateForge$Machine" "open" "I") (List.mem_of_getElem? (i := 1) rfl)) (fun _ h9 => h9) rfl dX7_latestFrame_21 ?_
      refine lv_iconst (v := 1) hx hb dX7_latestFrame_24 (by decide) ?_
      refine lv_isub hx hb dX7_latestFrame_25 ?_
      obtain ⟨p_7, hp_7⟩ := cget_13 cI cZ cP cF q S
      have hi_7 : cin S 13 0 := Or.inl ⟨by decide, rfl⟩
      have hin_7 := h.1
      have h := h.2
      refine va_aldq hx hb hK hP p_7 3 hp_7 rfl hin_7 dX7_latestFrame_26 ?_
      refine lv_goto (tgt := 31) hx hb dX7_latestFrame_27 (by decide) ?_
      exact W.aret hx hb hr (Or.inl ⟨_, rfl⟩) (Or.inr ⟨_, rfl⟩) (fun t ht hW => ⟨some _, rfl, ⟨((cv S 126 0 0) - 1), (if_neg (fun w => hin_7 (Or.inl w))).symm, h⟩, ht⟩) (fun q h => by cases h) dX7_latestFrame_31

def wp_X1_parts (S : CST) (i : Nat) (Post : Int32 → Prop) : Prop :=
  cin S 32 i ∧ (cin S 33 i ∧ ¬ (cv S 339 i 0 : Int32) < 0 ∧ (Post ((cv S 339 i 0) / 5)))
def zw_zd_X1_parts_w0 : List Cond := [.fieldLink RX1 18 "TemplateForge$Code" "cells" "[I"]
def zw_zd_X1_parts : List Cond := .code yX1_parts cX1_parts 1 (some .int) :: ((zw_zd_X1_parts_w0) ++ wsX10)
set_option maxHeartbeats 16000000 in
set_option maxRecDepth 100000 in
theorem zd_X1_parts (l : Launch) (D : va_G) (cI cZ cP cF : Nat) (q : Nat → Nat → Nat) (S : CST) (i : Nat) (Post : Int32 → Prop) (h : wp_X1_parts S i Post) : Met l yX1_parts zw_zd_X1_parts ({ frames := 0, cells := 0, slots := 0, locals := 0 }) (va_Pc [.ref (q 32 i)] (fun U => va_P D vwCl (cW cI cZ cP cF q S) U.heap ∧ zF D cI cZ cP cF U)) (vp_Si Post) 0 0 (fun _ => False) := by
  unfold wp_X1_parts at h
  refine Met.ofW (cc := cX1_parts) (maxL := 1) (ret := (some .int)) (by decide) rfl ?_
  intro p e s m args below meth c s₁ B hml hv
  obtain ⟨rfl, hP, hE⟩ := hv
  have hx := B.exec
  have hb := B.bytes
  have hr := B.returns
  have hts := atoms_spec (ws := zw_zd_X1_parts) B.pre
  have hown : s.vm.findClass RX1 = some m.cls := findClass_of_methodNamed B.named
  have hlocks := B.notSynchronized
  have hK := hE.k
  have hl := lv_entry ([.ref (q 32 i)]) (n := 1) (Nat.le_of_ble_eq_true rfl)
  rw [lg_entry_eq]
  generalize (lg_sl ([.ref (q 32 i)]) ++ List.replicate (1 - (lg_sl ([.ref (q 32 i)])).length) Slot.unset).toArray = ls at hl ⊢
  have hl : lv_has ls 1 [(0, .ref (q 32 i))] := hl
  refine lv_aload_n hx hb dX1_parts_0 rfl (lv_at hl 0 rfl) ?_
  have hi_1 := h.1
  have h := h.2
  obtain ⟨p_1, hp_1⟩ := cget_32 cI cZ cP cF q S hi_1
  refine va_get (D := D) (ci := 1) (v := .ref (q 33 i)) (C := RX1) (T := TX1) (N := 4) hx hb hts (fun _ h => List.mem_cons_of_mem _ (List.mem_append_right _ h)) hown hK hP p_1 hp_1 rfl 2 (by decide) (hts (.fieldLink RX1 18 "TemplateForge$Code" "cells" "[I") (List.mem_of_getElem? (i := 1) rfl)) (fun _ h9 => h9) rfl dX1_parts_1 ?_
  have hi_2 := h.1
  have h := h.2
  obtain ⟨p_2, hp_2⟩ := cget_33 cI cZ cP cF q S hi_2
  have hlen_2 := h.1
  have h := h.2
  refine va_alen hx hb hK hP p_2 0 hp_2 rfl (v := cv S 339 i 0) (ofNat_clamp hlen_2) dX1_parts_4 ?_
  refine lv_iconst (v := 5) hx hb dX1_parts_5 (by decide) ?_
  refine lv_idiv hx hb dX1_parts_6 (by decide) ?_
  exact W.iret (v := (cv S 339 i 0) / 5) hx hb hr (fun t ht hW => ⟨_, rfl, h, ht⟩) (fun q h => by cases h) dX1_parts_7

def wp_X1_cell (S : CST) (i : Nat) (a1 : Int32) (a2 : Int32) (Post : Int32 → Prop) : Prop :=
  (((a1 : Int32) < 0) → (Post (-2147483648))) ∧ ((¬ ((a1 : Int32) < 0)) → (cin S 32 i ∧ (wp_X1_parts S i (fun r3 => ((r3 ≤ a1) → (Post (-2147483648))) ∧ ((¬ (r3 ≤ a1)) → ((((a2 : Int32) < 0) → (Post (-2147483648))) ∧ ((¬ ((a2 : Int32) < 0)) → (((5 ≤ a2) → (Post (-2147483648))) ∧ ((¬ (5 ≤ a2)) → (cin S 32 i ∧ (cin S 33 i ∧ vp_in ((5 * a1) + a2) ((cv S 339 i 0).toNatClampNeg) ∧ (Post (cv S 330 i ((5 * a1) + a2 : Int32).toNatClampNeg)))))))))))))
def zw_zd_X1_cell_w0 : List Cond := [.constant RX1 29 (-2147483648), .code yX1_parts cX1_parts 1 (some .int), .fieldLink RX1 18 "TemplateForge$Code" "cells" "[I", .methodLink RX1 25 yX1_parts, .instanceMethod yX1_parts, .selects RX1 yX1_parts yX1_parts, .initialized RX1]
def zw_zd_X1_cell : List Cond := .code yX1_cell cX1_cell 3 (some .int) :: ((zw_zd_X1_cell_w0) ++ wsX10)
set_option maxRecDepth 100000 in
theorem zg_zd_X1_cell_zd_X1_parts_25_a : GoodIn zw_zd_X1_cell [.methodLink RX1 25 yX1_parts, .instanceMethod yX1_parts, .selects RX1 yX1_parts yX1_parts, .initialized RX1] := goodIn_r _ [4, 5, 6, 7] rfl (by decide +kernel)
set_option maxRecDepth 100000 in
theorem zg_zd_X1_cell_zd_X1_parts_25_c : GoodIn zw_zd_X1_cell [.code yX1_parts cX1_parts 1 (some .int)] := goodIn_r _ [2] rfl (by decide +kernel)
set_option maxRecDepth 100000 in
theorem zg_zd_X1_cell_zd_X1_parts_25_0 : GoodIn zw_zd_X1_cell zw_zd_X1_parts_w0 := goodIn_r _ [3] rfl (by decide +kernel)
theorem zg_zd_X1_cell_zd_X1_parts_25 : GoodIn zw_zd_X1_cell (wsV RX1 25 RX1 yX1_parts zw_zd_X1_parts) := goodIn_app zg_zd_X1_cell_zd_X1_parts_25_a (goodIn_ca (a := (zw_zd_X1_parts_w0)) (show GoodIn zw_zd_X1_cell (.code yX1_parts cX1_parts 1 (some .int) :: (zw_zd_X1_parts_w0)) from goodIn_app zg_zd_X1_cell_zd_X1_parts_25_c (zg_zd_X1_cell_zd_X1_parts_25_0)) (fun w h => ⟨(fun _ h => List.mem_cons_of_mem _ (List.mem_append_right _ h)) w h, good_of_word (List.all_eq_true.mp zgw_X1 w h)⟩))
set_option maxHeartbeats 16000000 in
set_option maxRecDepth 100000 in
theorem zd_X1_cell (l : Launch) (D : va_G) (cI cZ cP cF : Nat) (q : Nat → Nat → Nat) (S : CST) (i : Nat) (a1 : Int32) (a2 : Int32) (Post : Int32 → Prop) (h : wp_X1_cell S i a1 a2 Post) : Met l yX1_cell zw_zd_X1_cell ({ frames := 1, cells := 0, slots := 0, locals := 20 }) (va_Pc [.ref (q 32 i), .int a1, .int a2] (fun U => va_P D vwCl (cW cI cZ cP cF q S) U.heap ∧ zF D cI cZ cP cF U)) (vp_Si Post) 0 0 (fun _ => False) := by
  unfold wp_X1_cell at h
  refine Met.ofW (cc := cX1_cell) (maxL := 3) (ret := (some .int)) (by decide) rfl ?_
  intro p e s m args below meth c s₁ B hml hv
  obtain ⟨rfl, hP, hE⟩ := hv
  have hx := B.exec
  have hb := B.bytes
  have hr := B.returns
  have hts := atoms_spec (ws := zw_zd_X1_cell) B.pre
  have hown : s.vm.findClass RX1 = some m.cls := findClass_of_methodNamed B.named
  have hlocks := B.notSynchronized
  have hK := hE.k
  have hl := lv_entry ([.ref (q 32 i), .int a1, .int a2]) (n := 3) (Nat.le_of_ble_eq_true rfl)
  rw [lg_entry_eq]
  generalize (lg_sl ([.ref (q 32 i), .int a1, .int a2]) ++ List.replicate (3 - (lg_sl ([.ref (q 32 i), .int a1, .int a2])).length) Slot.unset).toArray = ls at hl ⊢
  have hl : lv_has ls 3 [(0, .ref (q 32 i)), (1, .int a1), (2, .int a2)] := hl
  refine lv_iload_n hx hb dX1_cell_0 rfl (lv_at hl 1 rfl) ?_
  refine lv_if_lt (tgt := 34) hx hb dX1_cell_1 (by decide) (fun c_1 => ?_) (fun c_1 => ?_)
  · have h := h.1 c_1
    refine lv_ldc hx hb hown (hts (.constant RX1 29 (-2147483648)) (List.mem_of_getElem? (i := 1) rfl)) dX1_cell_34 ?_
    exact W.iret (v := (-2147483648)) hx hb hr (fun t ht hW => ⟨_, rfl, h, ht⟩) (fun q h => by cases h) dX1_cell_36
  · have h := h.2 c_1
    refine lv_iload_n hx hb dX1_cell_4 rfl (lv_at hl 1 rfl) ?_
    refine lv_aload_n hx hb dX1_cell_5 rfl (lv_at hl 0 rfl) ?_
    have hi_2 := h.1
    have h := h.2
    obtain ⟨p_2, hp_2⟩ := cget_32 cI cZ cP cF q S hi_2
    refine vp_callSi (va_Run.run (va_runV (As := []) (rest := [.int a1]) ⟨hx, hb, hml, hown, hts⟩ (zd_X1_parts l D cI cZ cP cF q S i  _ h) (cwV 0 hts zg_zd_X1_cell_zd_X1_parts_25 rfl rfl rfl (by decide +kernel) ⟨Nat.le_of_ble_eq_true rfl, Nat.le_of_ble_eq_true rfl⟩) ⟨zCR, va_recv hK hP (ci := 1) (q0 := p_2) rfl hp_2, fun U hU hW => ⟨rfl, by rw [hU]; exact hP, hE.warm hW⟩⟩ rfl rfl hl.1 rfl (lv_room (Nat.le_of_ble_eq_true rfl)) dX1_cell_6 ⟨Nat.le_of_ble_eq_true rfl, Nat.le_of_ble_eq_true rfl⟩)) (fun r3 h => ?_)
    refine lv_icmp_ge (tgt := 34) hx hb dX1_cell_9 (by decide) (fun c_4 => ?_) (fun c_4 => ?_)
    · have h := h.1 c_4
      refine lv_ldc hx hb hown (hts (.constant RX1 29 (-2147483648)) (List.mem_of_getElem? (i := 1) rfl)) dX1_cell_34 ?_
      exact W.iret (v := (-2147483648)) hx hb hr (fun t ht hW => ⟨_, rfl, h, ht⟩) (fun q h => by cases h) dX1_cell_36
    · have h := h.2 c_4
      refine lv_iload_n hx hb dX1_cell_12 rfl (lv_at hl 2 rfl) ?_
      refine lv_if_lt (tgt := 34) hx hb dX1_cell_13 (by decide) (fun c_5 => ?_) (fun c_5 => ?_)
      · have h := h.1 c_5
        refine lv_ldc hx hb hown (hts (.constant RX1 29 (-2147483648)) (List.mem_of_getElem? (i := 1) rfl)) dX1_cell_34 ?_
        exact W.iret (v := (-2147483648)) hx hb hr (fun t ht hW => ⟨_, rfl, h, ht⟩) (fun q h => by cases h) dX1_cell_36
      · have h := h.2 c_5
        refine lv_iload_n hx hb dX1_cell_16 rfl (lv_at hl 2 rfl) ?_
        refine lv_iconst (v := 5) hx hb dX1_cell_17 (by decide) ?_
        refine lv_icmp_ge (tgt := 34) hx hb dX1_cell_18 (by decide) (fun c_6 => ?_) (fun c_6 => ?_)
        · have h := h.1 c_6
          refine lv_ldc hx hb hown (hts (.constant RX1 29 (-2147483648)) (List.mem_of_getElem? (i := 1) rfl)) dX1_cell_34 ?_
          exact W.iret (v := (-2147483648)) hx hb hr (fun t ht hW => ⟨_, rfl, h, ht⟩) (fun q h => by cases h) dX1_cell_36
        · have h := h.2 c_6
          refine lv_aload_n hx hb dX1_cell_21 rfl (lv_at hl 0 rfl) ?_
          have hi_7 := h.1
          have h := h.2
          obtain ⟨p_7, hp_7⟩ := cget_32 cI cZ cP cF q S hi_7
          refine va_get (D := D) (ci := 1) (v := .ref (q 33 i)) (C := RX1) (T := TX1) (N := 4) hx hb hts (fun _ h => List.mem_cons_of_mem _ (List.mem_append_right _ h)) hown hK hP p_7 hp_7 rfl 2 (by decide) (hts (.fieldLink RX1 18 "TemplateForge$Code" "cells" "[I") (List.mem_of_getElem? (i := 3) rfl)) (fun _ h9 => h9) rfl dX1_cell_22 ?_
          refine lv_iconst (v := 5) hx hb dX1_cell_25 (by decide) ?_
          refine lv_iload_n hx hb dX1_cell_26 rfl (lv_at hl 1 rfl) ?_
          refine lv_imul hx hb dX1_cell_27 ?_
          refine lv_iload_n hx hb dX1_cell_28 rfl (lv_at hl 2 rfl) ?_
          refine lv_iadd hx hb dX1_cell_29 ?_
          have hi_8 := h.1
          have h := h.2
          obtain ⟨p_8, hp_8⟩ := cget_33 cI cZ cP cF q S hi_8
          have hin_8 := h.1
          have h := h.2
          refine va_iald hx hb hK hP p_8 0 hp_8 rfl hin_8 dX1_cell_30 ?_
          refine lv_goto (tgt := 36) hx hb dX1_cell_31 (by decide) ?_
          exact W.iret (v := cv S 330 i ((5 * a1) + a2 : Int32).toNatClampNeg) hx hb hr (fun t ht hW => ⟨_, rfl, h, ht⟩) (fun q h => by cases h) dX1_cell_36

def wp_X1_startOf (S : CST) (i : Nat) (a1 : Int32) (Post : Int32 → Prop) : Prop :=
  (((a1 : Int32) < 0) → (cin S 32 i ∧ (wp_X1_parts S i (fun r3 => Post r3)))) ∧ ((¬ ((a1 : Int32) < 0)) → (cin S 32 i ∧ (cin S 34 i ∧ ¬ (cv S 349 i 0 : Int32) < 0 ∧ ((((cv S 349 i 0) ≤ a1) → (cin S 32 i ∧ (wp_X1_parts S i (fun r8 => Post r8)))) ∧ ((¬ ((cv S 349 i 0) ≤ a1)) → (cin S 32 i ∧ (cin S 34 i ∧ vp_in a1 ((cv S 349 i 0).toNatClampNeg) ∧ (Post (cv S 340 i (a1 : Int32).toNatClampNeg)))))))))
def zw_zd_X1_startOf_w0 : List Cond := [.code yX1_parts cX1_parts 1 (some .int), .fieldLink RX1 18 "TemplateForge$Code" "cells" "[I", .methodLink RX1 25 yX1_parts, .instanceMethod yX1_parts, .selects RX1 yX1_parts yX1_parts, .initialized RX1, .fieldLink RX1 22 "TemplateForge$Code" "starts" "[I"]
def zw_zd_X1_startOf : List Cond := .code yX1_startOf cX1_startOf 2 (some .int) :: ((zw_zd_X1_startOf_w0) ++ wsX10)
set_option maxRecDepth 100000 in
theorem zg_zd_X1_startOf_zd_X1_parts_25_a : GoodIn zw_zd_X1_startOf [.methodLink RX1 25 yX1_parts, .instanceMethod yX1_parts, .selects RX1 yX1_parts yX1_parts, .initialized RX1] := goodIn_r _ [3, 4, 5, 6] rfl (by decide +kernel)
set_option maxRecDepth 100000 in
theorem zg_zd_X1_startOf_zd_X1_parts_25_c : GoodIn zw_zd_X1_startOf [.code yX1_parts cX1_parts 1 (some .int)] := goodIn_r _ [1] rfl (by decide +kernel)
set_option maxRecDepth 100000 in
theorem zg_zd_X1_startOf_zd_X1_parts_25_0 : GoodIn zw_zd_X1_startOf zw_zd_X1_parts_w0 := goodIn_r _ [2] rfl (by decide +kernel)
theorem zg_zd_X1_startOf_zd_X1_parts_25 : GoodIn zw_zd_X1_startOf (wsV RX1 25 RX1 yX1_parts zw_zd_X1_parts) := goodIn_app zg_zd_X1_startOf_zd_X1_parts_25_a (goodIn_ca (a := (zw_zd_X1_parts_w0)) (show GoodIn zw_zd_X1_startOf (.code yX1_parts cX1_parts 1 (some .int) :: (zw_zd_X1_parts_w0)) from goodIn_app zg_zd_X1_startOf_zd_X1_parts_25_c (zg_zd_X1_startOf_zd_X1_parts_25_0)) (fun w h => ⟨(fun _ h => List.mem_cons_of_mem _ (List.mem_append_right _ h)) w h, good_of_word (List.all_eq_true.mp zgw_X1 w h)⟩))
set_option maxHeartbeats 16000000 in
set_option maxRecDepth 100000 in
theorem zd_X1_startOf (l : Launch) (D : va_G) (cI cZ cP cF : Nat) (q : Nat → Nat → Nat) (S : CST) (i : Nat) (a1 : Int32) (Post : Int32 → Prop) (h : wp_X1_startOf S i a1 Post) : Met l yX1_startOf zw_zd_X1_startOf ({ frames := 1, cells := 0, slots := 0, locals := 20 }) (va_Pc [.ref (q 32 i), .int a1] (fun U => va_P D vwCl (cW cI cZ cP cF q S) U.heap ∧ zF D cI cZ cP cF U)) (vp_Si Post) 0 0 (fun _ => False) := by
  unfold wp_X1_startOf at h
  refine Met.ofW (cc := cX1_startOf) (maxL := 2) (ret := (some .int)) (by decide) rfl ?_
  intro p e s m args below meth c s₁ B hml hv
  obtain ⟨rfl, hP, hE⟩ := hv
  have hx := B.exec
  have hb := B.bytes
  have hr := B.returns
  have hts := atoms_spec (ws := zw_zd_X1_startOf) B.pre
  have hown : s.vm.findClass RX1 = some m.cls := findClass_of_methodNamed B.named
  have hlocks := B.notSynchronized
  have hK := hE.k
  have hl := lv_entry ([.ref (q 32 i), .int a1]) (n := 2) (Nat.le_of_ble_eq_true rfl)
  rw [lg_entry_eq]
  generalize (lg_sl ([.ref (q 32 i), .int a1]) ++ List.replicate (2 - (lg_sl ([.ref (q 32 i), .int a1])).length) Slot.unset).toArray = ls at hl ⊢
  have hl : lv_has ls 2 [(0, .ref (q 32 i)), (1, .int a1)] := hl
  refine lv_iload_n hx hb dX1_startOf_0 rfl (lv_at hl 1 rfl) ?_
  refine lv_if_lt (tgt := 22) hx hb dX1_startOf_1 (by decide) (fun c_1 => ?_) (fun c_1 => ?_)
  · have h := h.1 c_1
    refine lv_aload_n hx hb dX1_startOf_22 rfl (lv_at hl 0 rfl) ?_
    have hi_2 := h.1
    have h := h.2
    obtain ⟨p_2, hp_2⟩ := cget_32 cI cZ cP cF q S hi_2
    refine vp_callSi (va_Run.run (va_runV (As := []) (rest := []) ⟨hx, hb, hml, hown, hts⟩ (zd_X1_parts l D cI cZ cP cF q S i  _ h) (cwV 0 hts zg_zd_X1_startOf_zd_X1_parts_25 rfl rfl rfl (by decide +kernel) ⟨Nat.le_of_ble_eq_true rfl, Nat.le_of_ble_eq_true rfl⟩) ⟨zCR, va_recv hK hP (ci := 1) (q0 := p_2) rfl hp_2, fun U hU hW => ⟨rfl, by rw [hU]; exact hP, hE.warm hW⟩⟩ rfl rfl hl.1 rfl (lv_room (Nat.le_of_ble_eq_true rfl)) dX1_startOf_23 ⟨Nat.le_of_ble_eq_true rfl, Nat.le_of_ble_eq_true rfl⟩)) (fun r3 h => ?_)
    exact W.iret (v := r3) hx hb hr (fun t ht hW => ⟨_, rfl, h, ht⟩) (fun q h => by cases h) dX1_startOf_26
  · have h := h.2 c_1
    refine lv_iload_n hx hb dX1_startOf_4 rfl (lv_at hl 1 rfl) ?_
    refine lv_aload_n hx hb dX1_startOf_5 rfl (lv_at hl 0 rfl) ?_
    have hi_4 := h.1
    have h := h.2
    obtain ⟨p_4, hp_4⟩ := cget_32 cI cZ cP cF q S hi_4
    refine va_get (D := D) (ci := 1) (v := .ref (q 34 i)) (C := RX1) (T := TX1) (N := 4) hx hb hts (fun _ h => List.mem_cons_of_mem _ (List.mem_append_right _ h)) hown hK hP p_4 hp_4 rfl 3 (by decide) (hts (.fieldLink RX1 22 "TemplateForge$Code" "starts" "[I") (List.mem_of_getElem? (i := 7) rfl)) (fun _ h9 => h9) rfl dX1_startOf_6 ?_
    have hi_5 := h.1
    have h := h.2
    obtain ⟨p_5, hp_5⟩ := cget_34 cI cZ cP cF q S hi_5
    have hlen_5 := h.1
    have h := h.2
    refine va_alen hx hb hK hP p_5 0 hp_5 rfl (v := cv S 349 i 0) (ofNat_clamp hlen_5) dX1_startOf_9 ?_
    refine lv_icmp_ge (tgt := 22) hx hb dX1_startOf_10 (by decide) (fun c_6 => ?_) (fun c_6 => ?_)
    · have h := h.1 c_6
      refine lv_aload_n hx hb dX1_startOf_22 rfl (lv_at hl 0 rfl) ?_
      have hi_7 := h.1
      have h := h.2
      obtain ⟨p_7, hp_7⟩ := cget_32 cI cZ cP cF q S hi_7
      refine vp_callSi (va_Run.run (va_runV (As := []) (rest := []) ⟨hx, hb, hml, hown, hts⟩ (zd_X1_parts l D cI cZ cP cF q S i  _ h) (cwV 0 hts zg_zd_X1_startOf_zd_X1_parts_25 rfl rfl rfl (by decide +kernel) ⟨Nat.le_of_ble_eq_true rfl, Nat.le_of_ble_eq_true rfl⟩) ⟨zCR, va_recv hK hP (ci := 1) (q0 := p_7) rfl hp_7, fun U hU hW => ⟨rfl, by rw [hU]; exact hP, hE.warm hW⟩⟩ rfl rfl hl.1 rfl (lv_room (Nat.le_of_ble_eq_true rfl)) dX1_startOf_23 ⟨Nat.le_of_ble_eq_true rfl, Nat.le_of_ble_eq_true rfl⟩)) (fun r8 h => ?_)
      exact W.iret (v := r8) hx hb hr (fun t ht hW => ⟨_, rfl, h, ht⟩) (fun q h => by cases h) dX1_startOf_26
    · have h := h.2 c_6
      refine lv_aload_n hx hb dX1_startOf_13 rfl (lv_at hl 0 rfl) ?_
      have hi_9 := h.1
      have h := h.2
      obtain ⟨p_9, hp_9⟩ := cget_32 cI cZ cP cF q S hi_9
      refine va_get (D := D) (ci := 1) (v := .ref (q 34 i)) (C := RX1) (T := TX1) (N := 4) hx hb hts (fun _ h => List.mem_cons_of_mem _ (List.mem_append_right _ h)) hown hK hP p_9 hp_9 rfl 3 (by decide) (hts (.fieldLink RX1 22 "TemplateForge$Code" "starts" "[I") (List.mem_of_getElem? (i := 7) rfl)) (fun _ h9 => h9) rfl dX1_startOf_14 ?_
      refine lv_iload_n hx hb dX1_startOf_17 rfl (lv_at hl 1 rfl) ?_
      have hi_10 := h.1
      have h := h.2
      obtain ⟨p_10, hp_10⟩ := cget_34 cI cZ cP cF q S hi_10
      have hin_10 := h.1
      have h := h.2
      refine va_iald hx hb hK hP p_10 0 hp_10 rfl hin_10 dX1_startOf_18 ?_
      refine lv_goto (tgt := 26) hx hb dX1_startOf_19 (by decide) ?_
      exact W.iret (v := cv S 340 i (a1 : Int32).toNatClampNeg) hx hb hr (fun t ht hW => ⟨_, rfl, h, ht⟩) (fun q h => by cases h) dX1_startOf_26

def wl_X1_mixedInto_2 (S : CST) (K_31 : Int64 → Prop) (Post : Int64 → Prop) : Nat → Nat → Int64 → Int32 → Prop
  | 0, _, _, _ => False
  | n_2 + 1, y2_0, x2_1, x2_3 => cin S 32 y2_0 ∧ (cin S 33 y2_0 ∧ ¬ (cv S 339 y2_0 0 : Int32) < 0 ∧ ((((cv S 339 y2_0 0) ≤ x2_3) → ((K_31 x2_1))) ∧ ((¬ ((cv S 339 y2_0 0) ≤ x2_3)) → (cin S 32 y2_0 ∧ (cin S 33 y2_0 ∧ vp_in x2_3 ((cv S 339 y2_0 0).toNatClampNeg) ∧ (wl_X1_mixedInto_2 S K_31 Post n_2 y2_0 ((31 * x2_1) + ((cv S 330 y2_0 (x2_3 : Int32).toNatClampNeg : Int32).toInt64)) (x2_3 + 1)))))))
def wp_X1_mixedInto (S : CST) (i : Nat) (a1 : Int64) (Post : Int64 → Prop) : Prop :=
  ∃ n_2, wl_X1_mixedInto_2 S (fun x31_1 => Post x31_1) Post n_2 i a1 0
def zw_zd_X1_mixedInto_w0 : List Cond := [.fieldLink RX1 18 "TemplateForge$Code" "cells" "[I", .constantLong RX1 30 (31)]
def zw_zd_X1_mixedInto : List Cond := .code yX1_mixedInto cX1_mixedInto 4 (some .long) :: ((zw_zd_X1_mixedInto_w0) ++ wsX10)
set_option maxHeartbeats 16000000 in
set_option maxRecDepth 100000 in
theorem zd_X1_mixedInto (l : Launch) (D : va_G) (cI cZ cP cF : Nat) (q : Nat → Nat → Nat) (S : CST) (i : Nat) (a1 : Int64) (Post : Int64 → Prop) (h : wp_X1_mixedInto S i a1 Post) : Met l yX1_mixedInto zw_zd_X1_mixedInto ({ frames := 0, cells := 0, slots := 0, locals := 0 }) (va_Pc [.ref (q 32 i), .long a1] (fun U => va_P D vwCl (cW cI cZ cP cF q S) U.heap ∧ zF D cI cZ cP cF U)) (vp_Sl Post) 0 0 (fun _ => False) := by
  unfold wp_X1_mixedInto at h
  refine Met.ofW (cc := cX1_mixedInto) (maxL := 4) (ret := (some .long)) (by decide) rfl ?_
  intro p e s m args below meth c s₁ B hml hv
  obtain ⟨rfl, hP, hE⟩ := hv
  have hx := B.exec
  have hb := B.bytes
  have hr := B.returns
  have hts := atoms_spec (ws := zw_zd_X1_mixedInto) B.pre
  have hown : s.vm.findClass RX1 = some m.cls := findClass_of_methodNamed B.named
  have hlocks := B.notSynchronized
  have hK := hE.k
  have hl := lv_entry ([.ref (q 32 i), .long a1]) (n := 4) (Nat.le_of_ble_eq_true rfl)
  rw [lg_entry_eq]
  generalize (lg_sl ([.ref (q 32 i), .long a1]) ++ List.replicate (4 - (lg_sl ([.ref (q 32 i), .long a1])).length) Slot.unset).toArray = ls at hl ⊢
  have hl : lv_has ls 4 [(0, .ref (q 32 i)), (1, .long a1)] := hl
  refine lv_iconst (v := 0) hx hb dX1_mixedInto_0 (by decide) ?_
  refine lv_istore_n (lv' := [(3, .int 0), (0, .ref (q 32 i)), (1, .long a1)]) hx hb dX1_mixedInto_1 rfl hl (by decide) rfl (fun ls hl => ?_)
  have EX_2_31 : ∀ (x31_1 : Int64) (ls : Array Slot), (Post x31_1) → lv_has ls 4 [(1, .long x31_1)] → W p l e (headSpec zw_zd_X1_mixedInto ({ frames := 0, cells := 0, slots := 0, locals := 0 })).room s m ([.ref (q 32 i), .long a1] : List Value).toArray below meth c s.heap [] 0 0 (MQ below (vp_Sl Post) ([.ref (q 32 i), .long a1] : List Value).toArray s 0 0 (fun _ => False)) (F0 m 31 ls []) := by
    intro x31_1 ls h hl
    refine lv_lload_n hx hb dX1_mixedInto_31 rfl (lv_at hl 0 rfl) ?_
    exact W.lret (v := x31_1) hx hb hr (fun t ht hW => ⟨_, rfl, h, ht⟩) (fun q h => by cases h) dX1_mixedInto_32
  have LP_2 : ∀ (n_2 : Nat), ∀ (y2_0 : Nat) (x2_1 : Int64) (x2_3 : Int32) (ls : Array Slot), wl_X1_mixedInto_2 S (fun x31_1 => Post x31_1) Post n_2 y2_0 x2_1 x2_3 → lv_has ls 4 [(0, .ref (q 32 y2_0)), (1, .long x2_1), (3, .int x2_3)] → W p l e (headSpec zw_zd_X1_mixedInto ({ frames := 0, cells := 0, slots := 0, locals := 0 })).room s m ([.ref (q 32 i), .long a1] : List Value).toArray below meth c s.heap [] 0 0 (MQ below (vp_Sl Post) ([.ref (q 32 i), .long a1] : List Value).toArray s 0 0 (fun _ => False)) (F0 m 2 ls []) := by
    intro n_2
    induction n_2 with
    | zero =>
      intro y2_0 x2_1 x2_3 ls h hl
      exact False.elim h
    | succ n_2 ih_2 =>
      intro y2_0 x2_1 x2_3 ls h hl
      unfold wl_X1_mixedInto_2 at h
      refine lv_iload_n hx hb dX1_mixedInto_2 rfl (lv_at hl 2 rfl) ?_
      refine lv_aload_n hx hb dX1_mixedInto_3 rfl (lv_at hl 0 rfl) ?_
      have hi_1 := h.1
      have h := h.2
      obtain ⟨p_1, hp_1⟩ := cget_32 cI cZ cP cF q S hi_1
      refine va_get (D := D) (ci := 1) (v := .ref (q 33 y2_0)) (C := RX1) (T := TX1) (N := 4) hx hb hts (fun _ h => List.mem_cons_of_mem _ (List.mem_append_right _ h)) hown hK hP p_1 hp_1 rfl 2 (by decide) (hts (.fieldLink RX1 18 "TemplateForge$Code" "cells" "[I") (List.mem_of_getElem? (i := 1) rfl)) (fun _ h9 => h9) rfl dX1_mixedInto_4 ?_
      have hi_2 := h.1
      have h := h.2
      obtain ⟨p_2, hp_2⟩ := cget_33 cI cZ cP cF q S hi_2
      have hlen_2 := h.1
      have h := h.2
      refine va_alen hx hb hK hP p_2 0 hp_2 rfl (v := cv S 339 y2_0 0) (ofNat_clamp hlen_2) dX1_mixedInto_7 ?_
      refine lv_icmp_ge (tgt := 31) hx hb dX1_mixedInto_8 (by decide) (fun c_3 => ?_) (fun c_3 => ?_)
      · have h := h.1 c_3
        exact EX_2_31  x2_1 _ h (lv_sub hl [1] rfl)
      · have h := h.2 c_3
        refine lv_ldc2 hx hb hown (hts (.constantLong RX1 30 (31)) (List.mem_of_getElem? (i := 2) rfl)) dX1_mixedInto_11 ?_
        refine lv_lload_n hx hb dX1_mixedInto_14 rfl (lv_at hl 1 rfl) ?_
        refine lv_lmul hx hb dX1_mixedInto_15 ?_
        refine lv_aload_n hx hb dX1_mixedInto_16 rfl (lv_at hl 0 rfl) ?_
        have hi_4 := h.1
        have h := h.2
        obtain ⟨p_4, hp_4⟩ := cget_32 cI cZ cP cF q S hi_4
        refine va_get (D := D) (ci := 1) (v := .ref (q 33 y2_0)) (C := RX1) (T := TX1) (N := 4) hx hb hts (fun _ h => List.mem_cons_of_mem _ (List.mem_append_right _ h)) hown hK hP p_4 hp_4 rfl 2 (by decide) (hts (.fieldLink RX1 18 "TemplateForge$Code" "cells" "[I") (List.mem_of_getElem? (i := 1) rfl)) (fun _ h9 => h9) rfl dX1_mixedInto_17 ?_
        refine lv_iload_n hx hb dX1_mixedInto_20 rfl (lv_at hl 2 rfl) ?_
        have hi_5 := h.1
        have h := h.2
        obtain ⟨p_5, hp_5⟩ := cget_33 cI cZ cP cF q S hi_5
        have hin_5 := h.1
        have h := h.2
        refine va_iald hx hb hK hP p_5 0 hp_5 rfl hin_5 dX1_mixedInto_21 ?_
        refine lv_i2l (v := (cv S 330 y2_0 (x2_3 : Int32).toNatClampNeg : Int32).toInt64) hx hb dX1_mixedInto_22 rfl ?_
        refine lv_ladd hx hb dX1_mixedInto_23 ?_
        refine lv_lstore_n (lv' := [(1, .long ((31 * x2_1) + ((cv S 330 y2_0 (x2_3 : Int32).toNatClampNeg : Int32).toInt64))), (0, .ref (q 32 y2_0)), (3, .int x2_3)]) hx hb dX1_mixedInto_24 rfl hl (by decide) rfl (fun ls hl => ?_)
        refine lv_iinc (v := x2_3 + 1) (lv' := [(3, .int (x2_3 + 1)), (1, .long ((31 * x2_1) + ((cv S 330 y2_0 (x2_3 : Int32).toNatClampNeg : Int32).toInt64))), (0, .ref (q 32 y2_0))]) hx hb dX1_mixedInto_25 hl (k := 2) rfl rfl (by decide) rfl (fun ls hl => ?_)
        refine lv_goto (tgt := 2) hx hb dX1_mixedInto_28 (by decide) ?_
        exact ih_2  y2_0 ((31 * x2_1) + ((cv S 330 y2_0 (x2_3 : Int32).toNatClampNeg : Int32).toInt64)) (x2_3 + 1) _ h (lv_sub hl [2, 1, 0] rfl)
  obtain ⟨n_2, h⟩ := h
  exact LP_2 n_2 i a1 0 _ h (lv_sub hl [1, 2, 0] rfl)

def wp_X2_renew (S : CST) (a1 : Int32) (a2 : Int32) (Post : CST → Prop) : Prop :=
  (((a1 : Int32) < 0) → (Post S)) ∧ ((¬ ((a1 : Int32) < 0)) → (((4 ≤ a1) → (Post S)) ∧ ((¬ (4 ≤ a1)) → ((((a2 : Int32) < (-1)) → (Post S)) ∧ ((¬ ((a2 : Int32) < (-1))) → (((20 < a2) → (Post S)) ∧ ((¬ (20 < a2)) → (vp_in a1 4 ∧ (∀ S7 : CST, S7 = cs S 50 0 (upd (cv S 50 0) (a1 : Int32).toNatClampNeg a2) → (wp_J7_fill_fda19_k6 S7 (20 * a1) (20 * (a1 + 1)) 0 (fun S9 => Post S9)))))))))))
def zw_zd_X2_renew_w0 : List Cond := [.fieldLink RX2 15 "TemplateForge$Data" "lengths" "[I", .fieldLink RX2 18 "TemplateForge$Data" "items" "[I", .code yJ7_fill_fda19 cJ7_fill_fda19 5 none, .code yJ7_rangeCheck_23922 cJ7_rangeCheck_23922 3 none, .methodLink RJ7 13 yJ7_rangeCheck_23922, .static yJ7_rangeCheck_23922, .initialized RJ7, .methodLink RX2 27 yJ7_fill_fda19, .static yJ7_fill_fda19]
def zw_zd_X2_renew : List Cond := .code yX2_renew cX2_renew 3 none :: ((zw_zd_X2_renew_w0) ++ wsX20)
set_option maxRecDepth 100000 in
theorem zg_zd_X2_renew_zd_J7_fill_fda19_k6_27_a : GoodIn zw_zd_X2_renew [.methodLink RX2 27 yJ7_fill_fda19, .static yJ7_fill_fda19, .initialized RJ7] := goodIn_r _ [8, 9, 7] rfl (by decide +kernel)
set_option maxRecDepth 100000 in
theorem zg_zd_X2_renew_zd_J7_fill_fda19_k6_27_c : GoodIn zw_zd_X2_renew [.code yJ7_fill_fda19 cJ7_fill_fda19 5 none] := goodIn_r _ [3] rfl (by decide +kernel)
set_option maxRecDepth 100000 in
theorem zg_zd_X2_renew_zd_J7_fill_fda19_k6_27_0 : GoodIn zw_zd_X2_renew zw_zd_J7_fill_fda19_k6_w0 := goodIn_r _ [4, 5, 6, 7] rfl (by decide +kernel)
theorem zg_zd_X2_renew_zd_J7_fill_fda19_k6_27 : GoodIn zw_zd_X2_renew (va_wsS RX2 27 yJ7_fill_fda19 zw_zd_J7_fill_fda19_k6) := goodIn_app zg_zd_X2_renew_zd_J7_fill_fda19_k6_27_a (show GoodIn zw_zd_X2_renew (.code yJ7_fill_fda19 cJ7_fill_fda19 5 none :: (zw_zd_J7_fill_fda19_k6_w0)) from goodIn_app zg_zd_X2_renew_zd_J7_fill_fda19_k6_27_c (zg_zd_X2_renew_zd_J7_fill_fda19_k6_27_0))
set_option maxHeartbeats 16000000 in
set_option maxRecDepth 100000 in
theorem zd_X2_renew (l : Launch) (D : va_G) (cI cZ cP cF : Nat) (q : Nat → Nat → Nat) (S : CST) (a1 : Int32) (a2 : Int32) (sz : Nat) (Post : CST → Prop) (h : wp_X2_renew S a1 a2 Post) : Met l yX2_renew zw_zd_X2_renew ({ frames := 2, cells := 0, slots := 0, locals := 46 }) (va_Pc [.ref (q 3 0), .int a1, .int a2] (fun U => U.heap.size = sz ∧ va_P D vwCl (cW cI cZ cP cF q S) U.heap ∧ zF D cI cZ cP cF U ∧ va_D (fun _ => True) (cW cI cZ cP cF q S))) (va_Qv (fun S' => Post S') (fun (S' : CST) t => va_P D vwCl (cW cI cZ cP cF q S') t.heap ∧ va_D (va_A (cW cI cZ cP cF q S) sz) (cW cI cZ cP cF q S') ∧ S'.2 = S.2) (va_A (cW cI cZ cP cF q S) sz)) 0 0 (va_A (cW cI cZ cP cF q S) sz) := by
  unfold wp_X2_renew at h
  refine Met.ofW (cc := cX2_renew) (maxL := 3) (ret := none) (by decide) rfl ?_
  intro p e s m args below meth c s₁ B hml hv
  obtain ⟨rfl, hsz, hP, hE, hD0⟩ := hv
  have hx := B.exec
  have hb := B.bytes
  have hr := B.returns
  have hts := atoms_spec (ws := zw_zd_X2_renew) B.pre
  have hown : s.vm.findClass RX2 = some m.cls := findClass_of_methodNamed B.named
  have hlocks := B.notSynchronized
  have hK := hE.k
  subst hsz
  have hD := hD0.self (sz := s.heap.size)
  generalize hAe : va_A (cW cI cZ cP cF q S) s.heap.size = A at hD ⊢
  have hA : ∀ q : Nat, s.heap.size ≤ q → A q := fun q h => by rw [← hAe]; exact Or.inr h
  have hN : S.2 = S.2 := rfl
  have hl := lv_entry ([.ref (q 3 0), .int a1, .int a2]) (n := 3) (Nat.le_of_ble_eq_true rfl)
  rw [lg_entry_eq]
  generalize (lg_sl ([.ref (q 3 0), .int a1, .int a2]) ++ List.replicate (3 - (lg_sl ([.ref (q 3 0), .int a1, .int a2])).length) Slot.unset).toArray = ls at hl ⊢
  have hl : lv_has ls 3 [(0, .ref (q 3 0)), (1, .int a1), (2, .int a2)] := hl
  have key : ∀ (H : Heap) (locs : List Loc), va_P D vwCl (cW cI cZ cP cF q S) H → va_S A s.heap H locs → W p l e (headSpec zw_zd_X2_renew ({ frames := 2, cells := 0, slots := 0, locals := 46 })).room s m ([.ref (q 3 0), .int a1, .int a2] : List Value).toArray below meth c H locs 0 0 (MQ below (va_Qv (fun S' => Post S') (fun (S' : CST) t => va_P D vwCl (cW cI cZ cP cF q S') t.heap ∧ va_D A (cW cI cZ cP cF q S') ∧ S'.2 = S.2) A) ([.ref (q 3 0), .int a1, .int a2] : List Value).toArray s 0 0 A) (F0 m 0 ls []) := by
    intro H locs hP hS
    refine lv_iload_n hx hb dX2_renew_0 rfl (lv_at hl 1 rfl) ?_
    refine lv_if_lt (tgt := 45) hx hb dX2_renew_1 (by decide) (fun c_1 => ?_) (fun c_1 => ?_)
    · have h := h.1 c_1
      exact W.vret hx hb hr (fun t ht hW => ⟨⟨S, rfl, h, by rw [ht]; exact hP, hD, hN⟩, hS.F ht⟩) hS.2.2 dX2_renew_45
    · have h := h.2 c_1
      refine lv_iload_n hx hb dX2_renew_4 rfl (lv_at hl 1 rfl) ?_
      refine lv_iconst (v := 4) hx hb dX2_renew_5 (by decide) ?_
      refine lv_icmp_ge (tgt := 45) hx hb dX2_renew_6 (by decide) (fun c_2 => ?_) (fun c_2 => ?_)
      · have h := h.1 c_2
        exact W.vret hx hb hr (fun t ht hW => ⟨⟨S, rfl, h, by rw [ht]; exact hP, hD, hN⟩, hS.F ht⟩) hS.2.2 dX2_renew_45
      · have h := h.2 c_2
        refine lv_iload_n hx hb dX2_renew_9 rfl (lv_at hl 2 rfl) ?_
        refine lv_iconst (v := (-1)) hx hb dX2_renew_10 (by decide) ?_
        refine lv_icmp_lt (tgt := 45) hx hb dX2_renew_11 (by decide) (fun c_3 => ?_) (fun c_3 => ?_)
        · have h := h.1 c_3
          exact W.vret hx hb hr (fun t ht hW => ⟨⟨S, rfl, h, by rw [ht]; exact hP, hD, hN⟩, hS.F ht⟩) hS.2.2 dX2_renew_45
        · have h := h.2 c_3
          refine lv_iload_n hx hb dX2_renew_14 rfl (lv_at hl 2 rfl) ?_
          refine lv_bipush (v := 20) hx hb dX2_renew_15 (by decide) ?_
          refine lv_icmp_gt (tgt := 45) hx hb dX2_renew_17 (by decide) (fun c_4 => ?_) (fun c_4 => ?_)
          · have h := h.1 c_4
            exact W.vret hx hb hr (fun t ht hW => ⟨⟨S, rfl, h, by rw [ht]; exact hP, hD, hN⟩, hS.F ht⟩) hS.2.2 dX2_renew_45
          · have h := h.2 c_4
            refine lv_aload_n hx hb dX2_renew_20 rfl (lv_at hl 0 rfl) ?_
            obtain ⟨p_5, hp_5⟩ := cget_3 cI cZ cP cF q S
            have hi_5 : cin S 3 0 := Or.inl ⟨by decide, rfl⟩
            refine va_get (D := D) (ci := 2) (v := .ref (q 5 0)) (C := RX2) (T := TX2) (N := 3) hx hb hts (fun _ h => List.mem_cons_of_mem _ (List.mem_append_right _ h)) hown hK hP p_5 hp_5 rfl 1 (by decide) (hts (.fieldLink RX2 15 "TemplateForge$Data" "lengths" "[I") (List.mem_of_getElem? (i := 1) rfl)) (fun _ h9 => h9) rfl dX2_renew_21 ?_
            refine lv_iload_n hx hb dX2_renew_24 rfl (lv_at hl 1 rfl) ?_
            refine lv_iload_n hx hb dX2_renew_25 rfl (lv_at hl 2 rfl) ?_
            obtain ⟨p_6, hp_6⟩ := cget_5 cI cZ cP cF q S
            have hi_6 : cin S 5 0 := Or.inl ⟨by decide, rfl⟩
            have hin_6 := h.1
            have h := h.2
            have hD0_6 := hD
            refine va_iast hx hb hK hP hD hS p_6 0 hp_6 rfl hin_6 dX2_renew_26 (fun H locs hP hD hS => ?_)
            obtain ⟨S7, eS7⟩ : ∃ z, z = cs S 50 0 (upd (cv S 50 0) (a1 : Int32).toNatClampNeg a2) := ⟨_, rfl⟩
            have hP : va_P D vwCl (cW cI cZ cP cF q S7) H := by rw [eS7, ← cW_put (k := 50) (κ := 5) (i := 0) (g := (upd (cv S 50 0) (a1 : Int32).toNatClampNeg a2)) rfl hD0_6 hp_6 hi_6, cput_50]; exact hP
            have hD : va_D A (cW cI cZ cP cF q S7) := by rw [eS7, ← cW_put (k := 50) (κ := 5) (i := 0) (g := (upd (cv S 50 0) (a1 : Int32).toNatClampNeg a2)) rfl hD0_6 hp_6 hi_6, cput_50]; exact hD
            have hN : S7.2 = S.2 := by rw [eS7]; exact hN
            have h := h S7 eS7
            refine lv_aload_n hx hb dX2_renew_27 rfl (lv_at hl 0 rfl) ?_
            obtain ⟨p_8, hp_8⟩ := cget_3 cI cZ cP cF q S7
            have hi_8 : cin S7 3 0 := Or.inl ⟨by decide, rfl⟩
            refine va_get (D := D) (ci := 2) (v := .ref (q 6 0)) (C := RX2) (T := TX2) (N := 3) hx hb hts (fun _ h => List.mem_cons_of_mem _ (List.mem_append_right _ h)) hown hK hP p_8 hp_8 rfl 2 (by decide) (hts (.fieldLink RX2 18 "TemplateForge$Data" "items" "[I") (List.mem_of_getElem? (i := 2) rfl)) (fun _ h9 => h9) rfl dX2_renew_28 ?_
            refine lv_bipush (v := 20) hx hb dX2_renew_31 (by decide) ?_
            refine lv_iload_n hx hb dX2_renew_33 rfl (lv_at hl 1 rfl) ?_
            refine lv_imul hx hb dX2_renew_34 ?_
            refine lv_bipush (v := 20) hx hb dX2_renew_35 (by decide) ?_
            refine lv_iload_n hx hb dX2_renew_37 rfl (lv_at hl 1 rfl) ?_
            refine lv_iconst (v := 1) hx hb dX2_renew_38 (by decide) ?_
            refine lv_iadd hx hb dX2_renew_39 ?_
            refine lv_imul hx hb dX2_renew_40 ?_
            refine lv_iconst (v := 0) hx hb dX2_renew_41 (by decide) ?_
            have hFc := zm_free hD hS hA
            refine va_callv (va_runS (As := [.ref (q 6 0), .int (20 * a1), .int (20 * (a1 + 1)), .int 0]) (rest := []) ⟨hx, hb, hml, hown, hts⟩ (zd_J7_fill_fda19_k6 l D cI cZ cP cF q S7 (20 * a1) (20 * (a1 + 1)) 0 H.size _ h) (va_cwS 4 hts zg_zd_X2_renew_zd_J7_fill_fda19_k6_27 rfl rfl rfl (by decide +kernel) ⟨Nat.le_of_ble_eq_true rfl, Nat.le_of_ble_eq_true rfl⟩) ⟨zCW, fun U hU hW => ⟨rfl, by rw [hU], by rw [hU]; exact hP, hE.warm hW, hD.weaken (fun _ _ _ _ => trivial)⟩⟩ rfl rfl hl.1 rfl (lv_room (Nat.le_of_ble_eq_true rfl)) dX2_renew_42 ⟨Nat.le_of_ble_eq_true rfl, Nat.le_of_ble_eq_true rfl⟩) hS (fun q _ h => hFc q h) hFc (fun S9 t H locs ht hvm h hB hz1 hk1 hS => ?_)
            obtain ⟨hP, hD1, hN1⟩ := hB
            rw [ht] at hP
            have hD := hD1.weaken (fun k q _ hq => hFc q.1 hq)
            have hN := hN1.trans hN
            exact W.vret hx hb hr (fun t ht hW => ⟨⟨S9, rfl, h, by rw [ht]; exact hP, hD, hN⟩, hS.F ht⟩) hS.2.2 dX2_renew_45
  exact key _ _ hP va_S.rf

def wl_X2_mixedInto_50 (S : CST) (K_81 : Int64 → Int32 → Prop) (Post : Int64 → Prop) : Nat → Int64 → Int32 → Int32 → Prop
  | 0, _, _, _ => False
  | n_50 + 1, x50_1, x50_3, x50_4 => wp_X2_lengthOf S x50_3 (fun r5 => ((r5 ≤ x50_4) → ((K_81 x50_1 x50_3))) ∧ ((¬ (r5 ≤ x50_4)) → (wp_X2_itemOf S x50_3 x50_4 (fun r8 => wl_X2_mixedInto_50 S K_81 Post n_50 ((31 * x50_1) + ((r8 : Int32).toInt64)) x50_3 (x50_4 + 1)))))
def wl_X2_mixedInto_29 (S : CST) (K_87 : Int64 → Prop) (Post : Int64 → Prop) : Nat → Int64 → Int32 → Prop
  | 0, _, _ => False
  | n_29 + 1, x29_1, x29_3 => ((4 ≤ x29_3) → ((K_87 x29_1))) ∧ ((¬ (4 ≤ x29_3)) → (wp_X2_lengthOf S x29_3 (fun r3 => ∃ n_50, wl_X2_mixedInto_50 S (fun x81_1 x81_3 => wl_X2_mixedInto_29 S K_87 Post n_29 x81_1 (x81_3 + 1)) Post n_50 ((31 * x29_1) + ((r3 : Int32).toInt64)) x29_3 0)))
def wl_X2_mixedInto_2 (S : CST) (K_27 : Int64 → Prop) (Post : Int64 → Prop) : Nat → Int64 → Int32 → Prop
  | 0, _, _ => False
  | n_2 + 1, x2_1, x2_3 => ((8 ≤ x2_3) → ((K_27 x2_1))) ∧ ((¬ (8 ≤ x2_3)) → (wp_X2_valueOf S x2_3 (fun r11 => wl_X2_mixedInto_2 S K_27 Post n_2 ((31 * x2_1) + ((r11 : Int32).toInt64)) (x2_3 + 1))))
def wp_X2_mixedInto (S : CST) (a1 : Int64) (Post : Int64 → Prop) : Prop :=
  ∃ n_2, wl_X2_mixedInto_2 S (fun x27_1 => ∃ n_29, wl_X2_mixedInto_29 S (fun x87_1 => Post x87_1) Post n_29 x27_1 0) Post n_2 a1 0
def zw_zd_X2_mixedInto_w0 : List Cond := [.constantLong RX2 34 (31), .code yX2_lengthOf cX2_lengthOf 2 (some .int), .fieldLink RX2 15 "TemplateForge$Data" "lengths" "[I", .methodLink RX2 30 yX2_lengthOf, .instanceMethod yX2_lengthOf, .selects RX2 yX2_lengthOf yX2_lengthOf, .initialized RX2, .code yX2_itemOf cX2_itemOf 3 (some .int), .fieldLink RX2 18 "TemplateForge$Data" "items" "[I", .methodLink RX2 39 yX2_itemOf, .instanceMethod yX2_itemOf, .selects RX2 yX2_itemOf yX2_itemOf, .code yX2_valueOf cX2_valueOf 2 (some .int), .fieldLink RX2 9 "TemplateForge$Data" "fields" "[I", .methodLink RX2 36 yX2_valueOf, .instanceMethod yX2_valueOf]
def zw_zd_X2_mixedInto_w1 : List Cond := [.selects RX2 yX2_valueOf yX2_valueOf]
def zw_zd_X2_mixedInto : List Cond := .code yX2_mixedInto cX2_mixedInto 5 (some .long) :: ((zw_zd_X2_mixedInto_w0 ++ (zw_zd_X2_mixedInto_w1)) ++ wsX20)
set_option maxRecDepth 100000 in
theorem zg_zd_X2_mixedInto_zd_X2_lengthOf_30_a : GoodIn zw_zd_X2_mixedInto [.methodLink RX2 30 yX2_lengthOf, .instanceMethod yX2_lengthOf, .selects RX2 yX2_lengthOf yX2_lengthOf, .initialized RX2] := goodIn_r _ [4, 5, 6, 7] rfl (by decide +kernel)
set_option maxRecDepth 100000 in
theorem zg_zd_X2_mixedInto_zd_X2_lengthOf_30_c : GoodIn zw_zd_X2_mixedInto [.code yX2_lengthOf cX2_lengthOf 2 (some .int)] := goodIn_r _ [2] rfl (by decide +kernel)
set_option maxRecDepth 100000 in
theorem zg_zd_X2_mixedInto_zd_X2_lengthOf_30_0 : GoodIn zw_zd_X2_mixedInto zw_zd_X2_lengthOf_w0 := goodIn_r _ [3] rfl (by decide +kernel)
theorem zg_zd_X2_mixedInto_zd_X2_lengthOf_30 : GoodIn zw_zd_X2_mixedInto (wsV RX2 30 RX2 yX2_lengthOf zw_zd_X2_lengthOf) := goodIn_app zg_zd_X2_mixedInto_zd_X2_lengthOf_30_a (goodIn_ca (a := (zw_zd_X2_lengthOf_w0)) (show GoodIn zw_zd_X2_mixedInto (.code yX2_lengthOf cX2_lengthOf 2 (some .int) :: (zw_zd_X2_lengthOf_w0)) from goodIn_app zg_zd_X2_mixedInto_zd_X2_lengthOf_30_c (zg_zd_X2_mixedInto_zd_X2_lengthOf_30_0)) (fun w h => ⟨(fun _ h => List.mem_cons_of_mem _ (List.mem_append_right _ h)) w h, good_of_word (List.all_eq_true.mp zgw_X2 w h)⟩))
set_option maxRecDepth 100000 in
theorem zg_zd_X2_mixedInto_zd_X2_itemOf_39_a : GoodIn zw_zd_X2_mixedInto [.methodLink RX2 39 yX2_itemOf, .instanceMethod yX2_itemOf, .selects RX2 yX2_itemOf yX2_itemOf, .initialized RX2] := goodIn_r _ [10, 11, 12, 7] rfl (by decide +kernel)
set_option maxRecDepth 100000 in
theorem zg_zd_X2_mixedInto_zd_X2_itemOf_39_c : GoodIn zw_zd_X2_mixedInto [.code yX2_itemOf cX2_itemOf 3 (some .int)] := goodIn_r _ [8] rfl (by decide +kernel)
set_option maxRecDepth 100000 in
theorem zg_zd_X2_mixedInto_zd_X2_itemOf_39_0 : GoodIn zw_zd_X2_mixedInto zw_zd_X2_itemOf_w0 := goodIn_r _ [2, 3, 4, 5, 6, 7, 9] rfl (by decide +kernel)
theorem zg_zd_X2_mixedInto_zd_X2_itemOf_39 : GoodIn zw_zd_X2_mixedInto (wsV RX2 39 RX2 yX2_itemOf zw_zd_X2_itemOf) := goodIn_app zg_zd_X2_mixedInto_zd_X2_itemOf_39_a (goodIn_ca (a := (zw_zd_X2_itemOf_w0)) (show GoodIn zw_zd_X2_mixedInto (.code yX2_itemOf cX2_itemOf 3 (some .int) :: (zw_zd_X2_itemOf_w0)) from goodIn_app zg_zd_X2_mixedInto_zd_X2_itemOf_39_c (zg_zd_X2_mixedInto_zd_X2_itemOf_39_0)) (fun w h => ⟨(fun _ h => List.mem_cons_of_mem _ (List.mem_append_right _ h)) w h, good_of_word (List.all_eq_true.mp zgw_X2 w h)⟩))
set_option maxRecDepth 100000 in
theorem zg_zd_X2_mixedInto_zd_X2_valueOf_36_a : GoodIn zw_zd_X2_mixedInto [.methodLink RX2 36 yX2_valueOf, .instanceMethod yX2_valueOf, .selects RX2 yX2_valueOf yX2_valueOf, .initialized RX2] := goodIn_r _ [15, 16, 17, 7] rfl (by decide +kernel)
set_option maxRecDepth 100000 in
theorem zg_zd_X2_mixedInto_zd_X2_valueOf_36_c : GoodIn zw_zd_X2_mixedInto [.code yX2_valueOf cX2_valueOf 2 (some .int)] := goodIn_r _ [13] rfl (by decide +kernel)
set_option maxRecDepth 100000 in
theorem zg_zd_X2_mixedInto_zd_X2_valueOf_36_0 : GoodIn zw_zd_X2_mixedInto zw_zd_X2_valueOf_w0 := goodIn_r _ [14] rfl (by decide +kernel)
theorem zg_zd_X2_mixedInto_zd_X2_valueOf_36 : GoodIn zw_zd_X2_mixedInto (wsV RX2 36 RX2 yX2_valueOf zw_zd_X2_valueOf) := goodIn_app zg_zd_X2_mixedInto_zd_X2_valueOf_36_a (goodIn_ca (a := (zw_zd_X2_valueOf_w0)) (show GoodIn zw_zd_X2_mixedInto (.code yX2_valueOf cX2_valueOf 2 (some .int) :: (zw_zd_X2_valueOf_w0)) from goodIn_app zg_zd_X2_mixedInto_zd_X2_valueOf_36_c (zg_zd_X2_mixedInto_zd_X2_valueOf_36_0)) (fun w h => ⟨(fun _ h => List.mem_cons_of_mem _ (List.mem_append_right _ h)) w h, good_of_word (List.all_eq_true.mp zgw_X2 w h)⟩))
set_option maxHeartbeats 16000000 in
set_option maxRecDepth 100000 in
theorem zd_X2_mixedInto (l : Launch) (D : va_G) (cI cZ cP cF : Nat) (q : Nat → Nat → Nat) (S : CST) (a1 : Int64) (Post : Int64 → Prop) (h : wp_X2_mixedInto S a1 Post) : Met l yX2_mixedInto zw_zd_X2_mixedInto ({ frames := 2, cells := 0, slots := 0, locals := 43 }) (va_Pc [.ref (q 3 0), .long a1] (fun U => va_P D vwCl (cW cI cZ cP cF q S) U.heap ∧ zF D cI cZ cP cF U)) (vp_Sl Post) 0 0 (fun _ => False) := by
  unfold wp_X2_mixedInto at h
  refine Met.ofW (cc := cX2_mixedInto) (maxL := 5) (ret := (some .long)) (by decide) rfl ?_
  intro p e s m args below meth c s₁ B hml hv
  obtain ⟨rfl, hP, hE⟩ := hv
  have hx := B.exec
  have hb := B.bytes
  have hr := B.returns
  have hts := atoms_spec (ws := zw_zd_X2_mixedInto) B.pre
  have hown : s.vm.findClass RX2 = some m.cls := findClass_of_methodNamed B.named
  have hlocks := B.notSynchronized
  have hK := hE.k
  have hl := lv_entry ([.ref (q 3 0), .long a1]) (n := 5) (Nat.le_of_ble_eq_true rfl)
  rw [lg_entry_eq]
  generalize (lg_sl ([.ref (q 3 0), .long a1]) ++ List.replicate (5 - (lg_sl ([.ref (q 3 0), .long a1])).length) Slot.unset).toArray = ls at hl ⊢
  have hl : lv_has ls 5 [(0, .ref (q 3 0)), (1, .long a1)] := hl
  refine lv_iconst (v := 0) hx hb dX2_mixedInto_0 (by decide) ?_
  refine lv_istore_n (lv' := [(3, .int 0), (0, .ref (q 3 0)), (1, .long a1)]) hx hb dX2_mixedInto_1 rfl hl (by decide) rfl (fun ls hl => ?_)
  have EX_2_27 : ∀ (x27_1 : Int64) (ls : Array Slot), (∃ n_29, wl_X2_mixedInto_29 S (fun x87_1 => Post x87_1) Post n_29 x27_1 0) → lv_has ls 5 [(0, .ref (q 3 0)), (1, .long x27_1)] → W p l e (headSpec zw_zd_X2_mixedInto ({ frames := 2, cells := 0, slots := 0, locals := 43 })).room s m ([.ref (q 3 0), .long a1] : List Value).toArray below meth c s.heap [] 0 0 (MQ below (vp_Sl Post) ([.ref (q 3 0), .long a1] : List Value).toArray s 0 0 (fun _ => False)) (F0 m 27 ls []) := by
    intro x27_1 ls h hl
    refine lv_iconst (v := 0) hx hb dX2_mixedInto_27 (by decide) ?_
    refine lv_istore_n (lv' := [(3, .int 0), (0, .ref (q 3 0)), (1, .long x27_1)]) hx hb dX2_mixedInto_28 rfl hl (by decide) rfl (fun ls hl => ?_)
    have EX_29_87 : ∀ (x87_1 : Int64) (ls : Array Slot), (Post x87_1) → lv_has ls 5 [(1, .long x87_1)] → W p l e (headSpec zw_zd_X2_mixedInto ({ frames := 2, cells := 0, slots := 0, locals := 43 })).room s m ([.ref (q 3 0), .long a1] : List Value).toArray below meth c s.heap [] 0 0 (MQ below (vp_Sl Post) ([.ref (q 3 0), .long a1] : List Value).toArray s 0 0 (fun _ => False)) (F0 m 87 ls []) := by
      intro x87_1 ls h hl
      refine lv_lload_n hx hb dX2_mixedInto_87 rfl (lv_at hl 0 rfl) ?_
      exact W.lret (v := x87_1) hx hb hr (fun t ht hW => ⟨_, rfl, h, ht⟩) (fun q h => by cases h) dX2_mixedInto_88
    have LP_29 : ∀ (n_29 : Nat), ∀ (x29_1 : Int64) (x29_3 : Int32) (ls : Array Slot), wl_X2_mixedInto_29 S (fun x87_1 => Post x87_1) Post n_29 x29_1 x29_3 → lv_has ls 5 [(0, .ref (q 3 0)), (1, .long x29_1), (3, .int x29_3)] → W p l e (headSpec zw_zd_X2_mixedInto ({ frames := 2, cells := 0, slots := 0, locals := 43 })).room s m ([.ref (q 3 0), .long a1] : List Value).toArray below meth c s.heap [] 0 0 (MQ below (vp_Sl Post) ([.ref (q 3 0), .long a1] : List Value).toArray s 0 0 (fun _ => False)) (F0 m 29 ls []) := by
      intro n_29
      induction n_29 with
      | zero =>
        intro x29_1 x29_3 ls h hl
        exact False.elim h
      | succ n_29 ih_29 =>
        intro x29_1 x29_3 ls h hl
        unfold wl_X2_mixedInto_29 at h
        refine lv_iload_n hx hb dX2_mixedInto_29 rfl (lv_at hl 2 rfl) ?_
        refine lv_iconst (v := 4) hx hb dX2_mixedInto_30 (by decide) ?_
        refine lv_icmp_ge (tgt := 87) hx hb dX2_mixedInto_31 (by decide) (fun c_1 => ?_) (fun c_1 => ?_)
        · have h := h.1 c_1
          exact EX_29_87  x29_1 _ h (lv_sub hl [1] rfl)
        · have h := h.2 c_1
          refine lv_ldc2 hx hb hown (hts (.constantLong RX2 34 (31)) (List.mem_of_getElem? (i := 1) rfl)) dX2_mixedInto_34 ?_
          refine lv_lload_n hx hb dX2_mixedInto_37 rfl (lv_at hl 1 rfl) ?_
          refine lv_lmul hx hb dX2_mixedInto_38 ?_
          refine lv_aload_n hx hb dX2_mixedInto_39 rfl (lv_at hl 0 rfl) ?_
          refine lv_iload_n hx hb dX2_mixedInto_40 rfl (lv_at hl 2 rfl) ?_
          obtain ⟨p_2, hp_2⟩ := cget_3 cI cZ cP cF q S
          have hi_2 : cin S 3 0 := Or.inl ⟨by decide, rfl⟩
          refine vp_callSi (va_Run.run (va_runV (As := [.int x29_3]) (rest := [.long (31 * x29_1)]) ⟨hx, hb, hml, hown, hts⟩ (zd_X2_lengthOf l D cI cZ cP cF q S x29_3  _ h) (cwV 1 hts zg_zd_X2_mixedInto_zd_X2_lengthOf_30 rfl rfl rfl (by decide +kernel) ⟨Nat.le_of_ble_eq_true rfl, Nat.le_of_ble_eq_true rfl⟩) ⟨zCR, va_recv hK hP (ci := 2) (q0 := p_2) rfl hp_2, fun U hU hW => ⟨rfl, by rw [hU]; exact hP, hE.warm hW⟩⟩ rfl rfl hl.1 rfl (lv_room (Nat.le_of_ble_eq_true rfl)) dX2_mixedInto_41 ⟨Nat.le_of_ble_eq_true rfl, Nat.le_of_ble_eq_true rfl⟩)) (fun r3 h => ?_)
          refine lv_i2l (v := (r3 : Int32).toInt64) hx hb dX2_mixedInto_44 rfl ?_
          refine lv_ladd hx hb dX2_mixedInto_45 ?_
          refine lv_lstore_n (lv' := [(1, .long ((31 * x29_1) + ((r3 : Int32).toInt64))), (0, .ref (q 3 0)), (3, .int x29_3)]) hx hb dX2_mixedInto_46 rfl hl (by decide) rfl (fun ls hl => ?_)
          refine lv_iconst (v := 0) hx hb dX2_mixedInto_47 (by decide) ?_
          refine lv_istore (lv' := [(4, .int 0), (1, .long ((31 * x29_1) + ((r3 : Int32).toInt64))), (0, .ref (q 3 0)), (3, .int x29_3)]) hx hb dX2_mixedInto_48 hl (by decide) rfl (fun ls hl => ?_)
          have EX_50_81 : ∀ (x81_1 : Int64) (x81_3 : Int32) (ls : Array Slot), (wl_X2_mixedInto_29 S (fun x87_1 => Post x87_1) Post n_29 x81_1 (x81_3 + 1)) → lv_has ls 5 [(0, .ref (q 3 0)), (1, .long x81_1), (3, .int x81_3)] → W p l e (headSpec zw_zd_X2_mixedInto ({ frames := 2, cells := 0, slots := 0, locals := 43 })).room s m ([.ref (q 3 0), .long a1] : List Value).toArray below meth c s.heap [] 0 0 (MQ below (vp_Sl Post) ([.ref (q 3 0), .long a1] : List Value).toArray s 0 0 (fun _ => False)) (F0 m 81 ls []) := by
            intro x81_1 x81_3 ls h hl
            refine lv_iinc (v := x81_3 + 1) (lv' := [(3, .int (x81_3 + 1)), (0, .ref (q 3 0)), (1, .long x81_1)]) hx hb dX2_mixedInto_81 hl (k := 2) rfl rfl (by decide) rfl (fun ls hl => ?_)
            refine lv_goto (tgt := 29) hx hb dX2_mixedInto_84 (by decide) ?_
            exact ih_29  x81_1 (x81_3 + 1) _ h (lv_sub hl [1, 2, 0] rfl)
          have LP_50 : ∀ (n_50 : Nat), ∀ (x50_1 : Int64) (x50_3 : Int32) (x50_4 : Int32) (ls : Array Slot), wl_X2_mixedInto_50 S (fun x81_1 x81_3 => wl_X2_mixedInto_29 S (fun x87_1 => Post x87_1) Post n_29 x81_1 (x81_3 + 1)) Post n_50 x50_1 x50_3 x50_4 → lv_has ls 5 [(0, .ref (q 3 0)), (1, .long x50_1), (3, .int x50_3), (4, .int x50_4)] → W p l e (headSpec zw_zd_X2_mixedInto ({ frames := 2, cells := 0, slots := 0, locals := 43 })).room s m ([.ref (q 3 0), .long a1] : List Value).toArray below meth c s.heap [] 0 0 (MQ below (vp_Sl Post) ([.ref (q 3 0), .long a1] : List Value).toArray s 0 0 (fun _ => False)) (F0 m 50 ls []) := by
            intro n_50
            induction n_50 with
            | zero =>
              intro x50_1 x50_3 x50_4 ls h hl
              exact False.elim h
            | succ n_50 ih_50 =>
              intro x50_1 x50_3 x50_4 ls h hl
              unfold wl_X2_mixedInto_50 at h
              refine lv_iload hx hb dX2_mixedInto_50 (lv_at hl 3 rfl) ?_
              refine lv_aload_n hx hb dX2_mixedInto_52 rfl (lv_at hl 0 rfl) ?_
              refine lv_iload_n hx hb dX2_mixedInto_53 rfl (lv_at hl 2 rfl) ?_
              obtain ⟨p_4, hp_4⟩ := cget_3 cI cZ cP cF q S
              have hi_4 : cin S 3 0 := Or.inl ⟨by decide, rfl⟩
              refine vp_callSi (va_Run.run (va_runV (As := [.int x50_3]) (rest := [.int x50_4]) ⟨hx, hb, hml, hown, hts⟩ (zd_X2_lengthOf l D cI cZ cP cF q S x50_3  _ h) (cwV 1 hts zg_zd_X2_mixedInto_zd_X2_lengthOf_30 rfl rfl rfl (by decide +kernel) ⟨Nat.le_of_ble_eq_true rfl, Nat.le_of_ble_eq_true rfl⟩) ⟨zCR, va_recv hK hP (ci := 2) (q0 := p_4) rfl hp_4, fun U hU hW => ⟨rfl, by rw [hU]; exact hP, hE.warm hW⟩⟩ rfl rfl hl.1 rfl (lv_room (Nat.le_of_ble_eq_true rfl)) dX2_mixedInto_54 ⟨Nat.le_of_ble_eq_true rfl, Nat.le_of_ble_eq_true rfl⟩)) (fun r5 h => ?_)
              refine lv_icmp_ge (tgt := 81) hx hb dX2_mixedInto_57 (by decide) (fun c_6 => ?_) (fun c_6 => ?_)
              · have h := h.1 c_6
                exact EX_50_81  x50_1 x50_3 _ h (lv_sub hl [0, 1, 2] rfl)
              · have h := h.2 c_6
                refine lv_ldc2 hx hb hown (hts (.constantLong RX2 34 (31)) (List.mem_of_getElem? (i := 1) rfl)) dX2_mixedInto_60 ?_
                refine lv_lload_n hx hb dX2_mixedInto_63 rfl (lv_at hl 1 rfl) ?_
                refine lv_lmul hx hb dX2_mixedInto_64 ?_
                refine lv_aload_n hx hb dX2_mixedInto_65 rfl (lv_at hl 0 rfl) ?_
                refine lv_iload_n hx hb dX2_mixedInto_66 rfl (lv_at hl 2 rfl) ?_
                refine lv_iload hx hb dX2_mixedInto_67 (lv_at hl 3 rfl) ?_
                obtain ⟨p_7, hp_7⟩ := cget_3 cI cZ cP cF q S
                have hi_7 : cin S 3 0 := Or.inl ⟨by decide, rfl⟩
                refine vp_callSi (va_Run.run (va_runV (As := [.int x50_3, .int x50_4]) (rest := [.long (31 * x50_1)]) ⟨hx, hb, hml, hown, hts⟩ (zd_X2_itemOf l D cI cZ cP cF q S x50_3 x50_4  _ h) (cwV 2 hts zg_zd_X2_mixedInto_zd_X2_itemOf_39 rfl rfl rfl (by decide +kernel) ⟨Nat.le_of_ble_eq_true rfl, Nat.le_of_ble_eq_true rfl⟩) ⟨zCR, va_recv hK hP (ci := 2) (q0 := p_7) rfl hp_7, fun U hU hW => ⟨rfl, by rw [hU]; exact hP, hE.warm hW⟩⟩ rfl rfl hl.1 rfl (lv_room (Nat.le_of_ble_eq_true rfl)) dX2_mixedInto_69 ⟨Nat.le_of_ble_eq_true rfl, Nat.le_of_ble_eq_true rfl⟩)) (fun r8 h => ?_)
                refine lv_i2l (v := (r8 : Int32).toInt64) hx hb dX2_mixedInto_72 rfl ?_
                refine lv_ladd hx hb dX2_mixedInto_73 ?_
                refine lv_lstore_n (lv' := [(1, .long ((31 * x50_1) + ((r8 : Int32).toInt64))), (0, .ref (q 3 0)), (3, .int x50_3), (4, .int x50_4)]) hx hb dX2_mixedInto_74 rfl hl (by decide) rfl (fun ls hl => ?_)
                refine lv_iinc (v := x50_4 + 1) (lv' := [(4, .int (x50_4 + 1)), (1, .long ((31 * x50_1) + ((r8 : Int32).toInt64))), (0, .ref (q 3 0)), (3, .int x50_3)]) hx hb dX2_mixedInto_75 hl (k := 3) rfl rfl (by decide) rfl (fun ls hl => ?_)
                refine lv_goto (tgt := 50) hx hb dX2_mixedInto_78 (by decide) ?_
                exact ih_50  ((31 * x50_1) + ((r8 : Int32).toInt64)) x50_3 (x50_4 + 1) _ h (lv_sub hl [2, 1, 3, 0] rfl)
          obtain ⟨n_50, h⟩ := h
          exact LP_50 n_50 ((31 * x29_1) + ((r3 : Int32).toInt64)) x29_3 0 _ h (lv_sub hl [2, 1, 3, 0] rfl)
    obtain ⟨n_29, h⟩ := h
    exact LP_29 n_29 x27_1 0 _ h (lv_sub hl [1, 2, 0] rfl)
  have LP_2 : ∀ (n_2 : Nat), ∀ (x2_1 : Int64) (x2_3 : Int32) (ls : Array Slot), wl_X2_mixedInto_2 S (fun x27_1 => ∃ n_29, wl_X2_mixedInto_29 S (fun x87_1 => Post x87_1) Post n_29 x27_1 0) Post n_2 x2_1 x2_3 → lv_has ls 5 [(0, .ref (q 3 0)), (1, .long x2_1), (3, .int x2_3)] → W p l e (headSpec zw_zd_X2_mixedInto ({ frames := 2, cells := 0, slots := 0, locals := 43 })).room s m ([.ref (q 3 0), .long a1] : List Value).toArray below meth c s.heap [] 0 0 (MQ below (vp_Sl Post) ([.ref (q 3 0), .long a1] : List Value).toArray s 0 0 (fun _ => False)) (F0 m 2 ls []) := by
    intro n_2
    induction n_2 with
    | zero =>
      intro x2_1 x2_3 ls h hl
      exact False.elim h
    | succ n_2 ih_2 =>
      intro x2_1 x2_3 ls h hl
      unfold wl_X2_mixedInto_2 at h
      refine lv_iload_n hx hb dX2_mixedInto_2 rfl (lv_at hl 2 rfl) ?_
      refine lv_bipush (v := 8) hx hb dX2_mixedInto_3 (by decide) ?_
      refine lv_icmp_ge (tgt := 27) hx hb dX2_mixedInto_5 (by decide) (fun c_9 => ?_) (fun c_9 => ?_)
      · have h := h.1 c_9
        exact EX_2_27  x2_1 _ h (lv_sub hl [0, 1] rfl)
      · have h := h.2 c_9
        refine lv_ldc2 hx hb hown (hts (.constantLong RX2 34 (31)) (List.mem_of_getElem? (i := 1) rfl)) dX2_mixedInto_8 ?_
        refine lv_lload_n hx hb dX2_mixedInto_11 rfl (lv_at hl 1 rfl) ?_
        refine lv_lmul hx hb dX2_mixedInto_12 ?_
        refine lv_aload_n hx hb dX2_mixedInto_13 rfl (lv_at hl 0 rfl) ?_
        refine lv_iload_n hx hb dX2_mixedInto_14 rfl (lv_at hl 2 rfl) ?_
        obtain ⟨p_10, hp_10⟩ := cget_3 cI cZ cP cF q S
        have hi_10 : cin S 3 0 := Or.inl ⟨by decide, rfl⟩
        refine vp_callSi (va_Run.run (va_runV (As := [.int x2_3]) (rest := [.long (31 * x2_1)]) ⟨hx, hb, hml, hown, hts⟩ (zd_X2_valueOf l D cI cZ cP cF q S x2_3  _ h) (cwV 1 hts zg_zd_X2_mixedInto_zd_X2_valueOf_36 rfl rfl rfl (by decide +kernel) ⟨Nat.le_of_ble_eq_true rfl, Nat.le_of_ble_eq_true rfl⟩) ⟨zCR, va_recv hK hP (ci := 2) (q0 := p_10) rfl hp_10, fun U hU hW => ⟨rfl, by rw [hU]; exact hP, hE.warm hW⟩⟩ rfl rfl hl.1 rfl (lv_room (Nat.le_of_ble_eq_true rfl)) dX2_mixedInto_15 ⟨Nat.le_of_ble_eq_true rfl, Nat.le_of_ble_eq_true rfl⟩)) (fun r11 h => ?_)
        refine lv_i2l (v := (r11 : Int32).toInt64) hx hb dX2_mixedInto_18 rfl ?_
        refine lv_ladd hx hb dX2_mixedInto_19 ?_
        refine lv_lstore_n (lv' := [(1, .long ((31 * x2_1) + ((r11 : Int32).toInt64))), (0, .ref (q 3 0)), (3, .int x2_3)]) hx hb dX2_mixedInto_20 rfl hl (by decide) rfl (fun ls hl => ?_)
        refine lv_iinc (v := x2_3 + 1) (lv' := [(3, .int (x2_3 + 1)), (1, .long ((31 * x2_1) + ((r11 : Int32).toInt64))), (0, .ref (q 3 0))]) hx hb dX2_mixedInto_21 hl (k := 2) rfl rfl (by decide) rfl (fun ls hl => ?_)
        refine lv_goto (tgt := 2) hx hb dX2_mixedInto_24 (by decide) ?_
        exact ih_2  ((31 * x2_1) + ((r11 : Int32).toInt64)) (x2_3 + 1) _ h (lv_sub hl [2, 1, 0] rfl)
  obtain ⟨n_2, h⟩ := h
  exact LP_2 n_2 a1 0 _ h (lv_sub hl [1, 2, 0] rfl)

def wp_X3_clear (S : CST) (Post : CST → Prop) : Prop :=
  ∀ S2 : CST, S2 = cs S 72 0 (fun _ => 0) → (wp_J7_fill_53178_k9 S2 0 (fun S4 => Post S4))
def zw_zd_X3_clear_w0 : List Cond := [.fieldLink RX3 18 "TemplateForge$Draft" "parts" "I", .fieldLink RX3 15 "TemplateForge$Draft" "starts" "[I", .code yJ7_fill_53178 cJ7_fill_53178 4 none, .methodLink RX3 22 yJ7_fill_53178, .static yJ7_fill_53178, .initialized RJ7]
def zw_zd_X3_clear : List Cond := .code yX3_clear cX3_clear 1 none :: ((zw_zd_X3_clear_w0) ++ wsX30)
set_option maxRecDepth 100000 in
theorem zg_zd_X3_clear_zd_J7_fill_53178_k9_22_a : GoodIn zw_zd_X3_clear [.methodLink RX3 22 yJ7_fill_53178, .static yJ7_fill_53178, .initialized RJ7] := goodIn_r _ [4, 5, 6] rfl (by decide +kernel)
set_option maxRecDepth 100000 in
theorem zg_zd_X3_clear_zd_J7_fill_53178_k9_22_c : GoodIn zw_zd_X3_clear [.code yJ7_fill_53178 cJ7_fill_53178 4 none] := goodIn_r _ [3] rfl (by decide +kernel)
theorem zg_zd_X3_clear_zd_J7_fill_53178_k9_22 : GoodIn zw_zd_X3_clear (va_wsS RX3 22 yJ7_fill_53178 zw_zd_J7_fill_53178_k9) := goodIn_app zg_zd_X3_clear_zd_J7_fill_53178_k9_22_a (show GoodIn zw_zd_X3_clear (.code yJ7_fill_53178 cJ7_fill_53178 4 none :: (([] : List Cond))) from zg_zd_X3_clear_zd_J7_fill_53178_k9_22_c)
set_option maxHeartbeats 16000000 in
set_option maxRecDepth 100000 in
theorem zd_X3_clear (l : Launch) (D : va_G) (cI cZ cP cF : Nat) (q : Nat → Nat → Nat) (S : CST) (sz : Nat) (Post : CST → Prop) (h : wp_X3_clear S Post) : Met l yX3_clear zw_zd_X3_clear ({ frames := 1, cells := 0, slots := 0, locals := 23 }) (va_Pc [.ref (q 7 0)] (fun U => U.heap.size = sz ∧ va_P D vwCl (cW cI cZ cP cF q S) U.heap ∧ zF D cI cZ cP cF U ∧ va_D (fun _ => True) (cW cI cZ cP cF q S))) (va_Qv (fun S' => Post S') (fun (S' : CST) t => va_P D vwCl (cW cI cZ cP cF q S') t.heap ∧ va_D (va_A (cW cI cZ cP cF q S) sz) (cW cI cZ cP cF q S') ∧ S'.2 = S.2) (va_A (cW cI cZ cP cF q S) sz)) 0 0 (va_A (cW cI cZ cP cF q S) sz) := by
  unfold wp_X3_clear at h
  refine Met.ofW (cc := cX3_clear) (maxL := 1) (ret := none) (by decide) rfl ?_
  intro p e s m args below meth c s₁ B hml hv
  obtain ⟨rfl, hsz, hP, hE, hD0⟩ := hv
  have hx := B.exec
  have hb := B.bytes
  have hr := B.returns
  have hts := atoms_spec (ws := zw_zd_X3_clear) B.pre
  have hown : s.vm.findClass RX3 = some m.cls := findClass_of_methodNamed B.named
  have hlocks := B.notSynchronized
  have hK := hE.k
  subst hsz
  have hD := hD0.self (sz := s.heap.size)
  generalize hAe : va_A (cW cI cZ cP cF q S) s.heap.size = A at hD ⊢
  have hA : ∀ q : Nat, s.heap.size ≤ q → A q := fun q h => by rw [← hAe]; exact Or.inr h
  have hN : S.2 = S.2 := rfl
  have hl := lv_entry ([.ref (q 7 0)]) (n := 1) (Nat.le_of_ble_eq_true rfl)
  rw [lg_entry_eq]
  generalize (lg_sl ([.ref (q 7 0)]) ++ List.replicate (1 - (lg_sl ([.ref (q 7 0)])).length) Slot.unset).toArray = ls at hl ⊢
  have hl : lv_has ls 1 [(0, .ref (q 7 0))] := hl
  have key : ∀ (H : Heap) (locs : List Loc), va_P D vwCl (cW cI cZ cP cF q S) H → va_S A s.heap H locs → W p l e (headSpec zw_zd_X3_clear ({ frames := 1, cells := 0, slots := 0, locals := 23 })).room s m ([.ref (q 7 0)] : List Value).toArray below meth c H locs 0 0 (MQ below (va_Qv (fun S' => Post S') (fun (S' : CST) t => va_P D vwCl (cW cI cZ cP cF q S') t.heap ∧ va_D A (cW cI cZ cP cF q S') ∧ S'.2 = S.2) A) ([.ref (q 7 0)] : List Value).toArray s 0 0 A) (F0 m 0 ls []) := by
    intro H locs hP hS
    refine lv_aload_n hx hb dX3_clear_0 rfl (lv_at hl 0 rfl) ?_
    refine lv_iconst (v := 0) hx hb dX3_clear_1 (by decide) ?_
    obtain ⟨p_1, hp_1⟩ := cget_7 cI cZ cP cF q S
    have hi_1 : cin S 7 0 := Or.inl ⟨by decide, rfl⟩
    have hD0_1 := hD
    refine va_put (D := D) (ci := 3) (v := .int 0) (ty := .int) (C := RX3) (T := TX3) (N := 3) hx hb hts (fun _ h => List.mem_cons_of_mem _ (List.mem_append_right _ h)) tyX3 tyX3_ok nmX3 hown hK hP hD hS p_1 hp_1 rfl 2 (by decide) (hts (.fieldLink RX3 18 "TemplateForge$Draft" "parts" "I") (List.mem_of_getElem? (i := 1) rfl)) (fun _ h9 => h9) rfl (by decide +kernel) rfl rfl (Nat.le_of_ble_eq_true rfl) dX3_clear_2 (fun H locs hP hD hS => ?_)
    obtain ⟨S2, eS2⟩ : ∃ z, z = cs S 72 0 (fun _ => 0) := ⟨_, rfl⟩
    have hP : va_P D vwCl (cW cI cZ cP cF q S2) H := by rw [eS2, ← cW_put (k := 72) (κ := 7) (i := 0) (g := (fun _ => 0)) rfl hD0_1 hp_1 hi_1, cput_72]; exact hP
    have hD : va_D A (cW cI cZ cP cF q S2) := by rw [eS2, ← cW_put (k := 72) (κ := 7) (i := 0) (g := (fun _ => 0)) rfl hD0_1 hp_1 hi_1, cput_72]; exact hD
    have hN : S2.2 = S.2 := by rw [eS2]; exact hN
    have h := h S2 eS2
    refine lv_aload_n hx hb dX3_clear_5 rfl (lv_at hl 0 rfl) ?_
    obtain ⟨p_3, hp_3⟩ := cget_7 cI cZ cP cF q S2
    have hi_3 : cin S2 7 0 := Or.inl ⟨by decide, rfl⟩
    refine va_get (D := D) (ci := 3) (v := .ref (q 9 0)) (C := RX3) (T := TX3) (N := 3) hx hb hts (fun _ h => List.mem_cons_of_mem _ (List.mem_append_right _ h)) hown hK hP p_3 hp_3 rfl 1 (by decide) (hts (.fieldLink RX3 15 "TemplateForge$Draft" "starts" "[I") (List.mem_of_getElem? (i := 2) rfl)) (fun _ h9 => h9) rfl dX3_clear_6 ?_
    refine lv_iconst (v := 0) hx hb dX3_clear_9 (by decide) ?_
    have hFc := zm_free hD hS hA
    refine va_callv (va_runS (As := [.ref (q 9 0), .int 0]) (rest := []) ⟨hx, hb, hml, hown, hts⟩ (zd_J7_fill_53178_k9 l D cI cZ cP cF q S2 0 H.size _ h) (va_cwS 2 hts zg_zd_X3_clear_zd_J7_fill_53178_k9_22 rfl rfl rfl (by decide +kernel) ⟨Nat.le_of_ble_eq_true rfl, Nat.le_of_ble_eq_true rfl⟩) ⟨zCW, fun U hU hW => ⟨rfl, by rw [hU], by rw [hU]; exact hP, hE.warm hW, hD.weaken (fun _ _ _ _ => trivial)⟩⟩ rfl rfl hl.1 rfl (lv_room (Nat.le_of_ble_eq_true rfl)) dX3_clear_10 ⟨Nat.le_of_ble_eq_true rfl, Nat.le_of_ble_eq_true rfl⟩) hS (fun q _ h => hFc q h) hFc (fun S4 t H locs ht hvm h hB hz1 hk1 hS => ?_)
    obtain ⟨hP, hD1, hN1⟩ := hB
    rw [ht] at hP
    have hD := hD1.weaken (fun k q _ hq => hFc q.1 hq)
    have hN := hN1.trans hN
    exact W.vret hx hb hr (fun t ht hW => ⟨⟨S4, rfl, h, by rw [ht]; exact hP, hD, hN⟩, hS.F ht⟩) hS.2.2 dX3_clear_13
  exact key _ _ hP va_S.rf

def wp_X4_clear (S : CST) (i : Nat) (Post : CST → Prop) : Prop :=
  cin S 22 i ∧ (wp_J7_fill_53178_k23 S i 0 (fun S2 => Post S2))
def zw_zd_X4_clear_w0 : List Cond := [.fieldLink RX4 9 "TemplateForge$Frame" "registers" "[I", .code yJ7_fill_53178 cJ7_fill_53178 4 none, .methodLink RX4 15 yJ7_fill_53178, .static yJ7_fill_53178, .initialized RJ7]
def zw_zd_X4_clear : List Cond := .code yX4_clear cX4_clear 1 none :: ((zw_zd_X4_clear_w0) ++ wsX40)
set_option maxRecDepth 100000 in
theorem zg_zd_X4_clear_zd_J7_fill_53178_k23_15_a : GoodIn zw_zd_X4_clear [.methodLink RX4 15 yJ7_fill_53178, .static yJ7_fill_53178, .initialized RJ7] := goodIn_r _ [3, 4, 5] rfl (by decide +kernel)
set_option maxRecDepth 100000 in
theorem zg_zd_X4_clear_zd_J7_fill_53178_k23_15_c : GoodIn zw_zd_X4_clear [.code yJ7_fill_53178 cJ7_fill_53178 4 none] := goodIn_r _ [2] rfl (by decide +kernel)
theorem zg_zd_X4_clear_zd_J7_fill_53178_k23_15 : GoodIn zw_zd_X4_clear (va_wsS RX4 15 yJ7_fill_53178 zw_zd_J7_fill_53178_k23) := goodIn_app zg_zd_X4_clear_zd_J7_fill_53178_k23_15_a (show GoodIn zw_zd_X4_clear (.code yJ7_fill_53178 cJ7_fill_53178 4 none :: (([] : List Cond))) from zg_zd_X4_clear_zd_J7_fill_53178_k23_15_c)
set_option maxHeartbeats 16000000 in
set_option maxRecDepth 100000 in
theorem zd_X4_clear (l : Launch) (D : va_G) (cI cZ cP cF : Nat) (q : Nat → Nat → Nat) (S : CST) (i : Nat) (sz : Nat) (Post : CST → Prop) (h : wp_X4_clear S i Post) : Met l yX4_clear zw_zd_X4_clear ({ frames := 1, cells := 0, slots := 0, locals := 23 }) (va_Pc [.ref (q 22 i)] (fun U => U.heap.size = sz ∧ va_P D vwCl (cW cI cZ cP cF q S) U.heap ∧ zF D cI cZ cP cF U ∧ va_D (fun _ => True) (cW cI cZ cP cF q S))) (va_Qv (fun S' => Post S') (fun (S' : CST) t => va_P D vwCl (cW cI cZ cP cF q S') t.heap ∧ va_D (va_A (cW cI cZ cP cF q S) sz) (cW cI cZ cP cF q S') ∧ S'.2 = S.2) (va_A (cW cI cZ cP cF q S) sz)) 0 0 (va_A (cW cI cZ cP cF q S) sz) := by
  unfold wp_X4_clear at h
  refine Met.ofW (cc := cX4_clear) (maxL := 1) (ret := none) (by decide) rfl ?_
  intro p e s m args below meth c s₁ B hml hv
  obtain ⟨rfl, hsz, hP, hE, hD0⟩ := hv
  have hx := B.exec
  have hb := B.bytes
  have hr := B.returns
  have hts := atoms_spec (ws := zw_zd_X4_clear) B.pre
  have hown : s.vm.findClass RX4 = some m.cls := findClass_of_methodNamed B.named
  have hlocks := B.notSynchronized
  have hK := hE.k
  subst hsz
  have hD := hD0.self (sz := s.heap.size)
  generalize hAe : va_A (cW cI cZ cP cF q S) s.heap.size = A at hD ⊢
  have hA : ∀ q : Nat, s.heap.size ≤ q → A q := fun q h => by rw [← hAe]; exact Or.inr h
  have hN : S.2 = S.2 := rfl
  have hl := lv_entry ([.ref (q 22 i)]) (n := 1) (Nat.le_of_ble_eq_true rfl)
  rw [lg_entry_eq]
  generalize (lg_sl ([.ref (q 22 i)]) ++ List.replicate (1 - (lg_sl ([.ref (q 22 i)])).length) Slot.unset).toArray = ls at hl ⊢
  have hl : lv_has ls 1 [(0, .ref (q 22 i))] := hl
  have key : ∀ (H : Heap) (locs : List Loc), va_P D vwCl (cW cI cZ cP cF q S) H → va_S A s.heap H locs → W p l e (headSpec zw_zd_X4_clear ({ frames := 1, cells := 0, slots := 0, locals := 23 })).room s m ([.ref (q 22 i)] : List Value).toArray below meth c H locs 0 0 (MQ below (va_Qv (fun S' => Post S') (fun (S' : CST) t => va_P D vwCl (cW cI cZ cP cF q S') t.heap ∧ va_D A (cW cI cZ cP cF q S') ∧ S'.2 = S.2) A) ([.ref (q 22 i)] : List Value).toArray s 0 0 A) (F0 m 0 ls []) := by
    intro H locs hP hS
    refine lv_aload_n hx hb dX4_clear_0 rfl (lv_at hl 0 rfl) ?_
    have hi_1 := h.1
    have h := h.2
    obtain ⟨p_1, hp_1⟩ := cget_22 cI cZ cP cF q S hi_1
    refine va_get (D := D) (ci := 4) (v := .ref (q 23 i)) (C := RX4) (T := TX4) (N := 5) hx hb hts (fun _ h => List.mem_cons_of_mem _ (List.mem_append_right _ h)) hown hK hP p_1 hp_1 rfl 4 (by decide) (hts (.fieldLink RX4 9 "TemplateForge$Frame" "registers" "[I") (List.mem_of_getElem? (i := 1) rfl)) (fun _ h9 => h9) rfl dX4_clear_1 ?_
    refine lv_iconst (v := 0) hx hb dX4_clear_4 (by decide) ?_
    have hFc := zm_free hD hS hA
    refine va_callv (va_runS (As := [.ref (q 23 i), .int 0]) (rest := []) ⟨hx, hb, hml, hown, hts⟩ (zd_J7_fill_53178_k23 l D cI cZ cP cF q S i 0 H.size _ h) (va_cwS 2 hts zg_zd_X4_clear_zd_J7_fill_53178_k23_15 rfl rfl rfl (by decide +kernel) ⟨Nat.le_of_ble_eq_true rfl, Nat.le_of_ble_eq_true rfl⟩) ⟨zCW, fun U hU hW => ⟨rfl, by rw [hU], by rw [hU]; exact hP, hE.warm hW, hD.weaken (fun _ _ _ _ => trivial)⟩⟩ rfl rfl hl.1 rfl (lv_room (Nat.le_of_ble_eq_true rfl)) dX4_clear_5 ⟨Nat.le_of_ble_eq_true rfl, Nat.le_of_ble_eq_true rfl⟩) hS (fun q _ h => hFc q h) hFc (fun S2 t H locs ht hvm h hB hz1 hk1 hS => ?_)
    obtain ⟨hP, hD1, hN1⟩ := hB
    rw [ht] at hP
    have hD := hD1.weaken (fun k q _ hq => hFc q.1 hq)
    have hN := hN1.trans hN
    exact W.vret hx hb hr (fun t ht hW => ⟨⟨S2, rfl, h, by rw [ht]; exact hP, hD, hN⟩, hS.F ht⟩) hS.2.2 dX4_clear_8
  exact key _ _ hP va_S.rf

def wp_X8_forgetDepths (S : CST) (i : Nat) (Post : CST → Prop) : Prop :=
  cin S 24 i ∧ (wp_J7_fill_53178_k27 S i (-1) (fun S2 => Post S2))
def zw_zd_X8_forgetDepths_w0 : List Cond := [.fieldLink RX8 25 "TemplateForge$Program" "depths" "[I", .code yJ7_fill_53178 cJ7_fill_53178 4 none, .methodLink RX8 55 yJ7_fill_53178, .static yJ7_fill_53178, .initialized RJ7]
def zw_zd_X8_forgetDepths : List Cond := .code yX8_forgetDepths cX8_forgetDepths 1 none :: ((zw_zd_X8_forgetDepths_w0) ++ wsX80)
set_option maxRecDepth 100000 in
theorem zg_zd_X8_forgetDepths_zd_J7_fill_53178_k27_55_a : GoodIn zw_zd_X8_forgetDepths [.methodLink RX8 55 yJ7_fill_53178, .static yJ7_fill_53178, .initialized RJ7] := goodIn_r _ [3, 4, 5] rfl (by decide +kernel)
set_option maxRecDepth 100000 in
theorem zg_zd_X8_forgetDepths_zd_J7_fill_53178_k27_55_c : GoodIn zw_zd_X8_forgetDepths [.code yJ7_fill_53178 cJ7_fill_53178 4 none] := goodIn_r _ [2] rfl (by decide +kernel)
theorem zg_zd_X8_forgetDepths_zd_J7_fill_53178_k27_55 : GoodIn zw_zd_X8_forgetDepths (va_wsS RX8 55 yJ7_fill_53178 zw_zd_J7_fill_53178_k27) := goodIn_app zg_zd_X8_forgetDepths_zd_J7_fill_53178_k27_55_a (show GoodIn zw_zd_X8_forgetDepths (.code yJ7_fill_53178 cJ7_fill_53178 4 none :: (([] : List Cond))) from zg_zd_X8_forgetDepths_zd_J7_fill_53178_k27_55_c)
set_option maxHeartbeats 16000000 in
set_option maxRecDepth 100000 in
theorem zd_X8_forgetDepths (l : Launch) (D : va_G) (cI cZ cP cF : Nat) (q : Nat → Nat → Nat) (S : CST) (i : Nat) (sz : Nat) (Post : CST → Prop) (h : wp_X8_forgetDepths S i Post) : Met l yX8_forgetDepths zw_zd_X8_forgetDepths ({ frames := 1, cells := 0, slots := 0, locals := 23 }) (va_Pc [.ref (q 24 i)] (fun U => U.heap.size = sz ∧ va_P D vwCl (cW cI cZ cP cF q S) U.heap ∧ zF D cI cZ cP cF U ∧ va_D (fun _ => True) (cW cI cZ cP cF q S))) (va_Qv (fun S' => Post S') (fun (S' : CST) t => va_P D vwCl (cW cI cZ cP cF q S') t.heap ∧ va_D (va_A (cW cI cZ cP cF q S) sz) (cW cI cZ cP cF q S') ∧ S'.2 = S.2) (va_A (cW cI cZ cP cF q S) sz)) 0 0 (va_A (cW cI cZ cP cF q S) sz) := by
  unfold wp_X8_forgetDepths at h
  refine Met.ofW (cc := cX8_forgetDepths) (maxL := 1) (ret := none) (by decide) rfl ?_
  intro p e s m args below meth c s₁ B hml hv
  obtain ⟨rfl, hsz, hP, hE, hD0⟩ := hv
  have hx := B.exec
  have hb := B.bytes
  have hr := B.returns
  have hts := atoms_spec (ws := zw_zd_X8_forgetDepths) B.pre
  have hown : s.vm.findClass RX8 = some m.cls := findClass_of_methodNamed B.named
  have hlocks := B.notSynchronized
  have hK := hE.k
  subst hsz
  have hD := hD0.self (sz := s.heap.size)
  generalize hAe : va_A (cW cI cZ cP cF q S) s.heap.size = A at hD ⊢
  have hA : ∀ q : Nat, s.heap.size ≤ q → A q := fun q h => by rw [← hAe]; exact Or.inr h
  have hN : S.2 = S.2 := rfl
  have hl := lv_entry ([.ref (q 24 i)]) (n := 1) (Nat.le_of_ble_eq_true rfl)
  rw [lg_entry_eq]
  generalize (lg_sl ([.ref (q 24 i)]) ++ List.replicate (1 - (lg_sl ([.ref (q 24 i)])).length) Slot.unset).toArray = ls at hl ⊢
  have hl : lv_has ls 1 [(0, .ref (q 24 i))] := hl
  have key : ∀ (H : Heap) (locs : List Loc), va_P D vwCl (cW cI cZ cP cF q S) H → va_S A s.heap H locs → W p l e (headSpec zw_zd_X8_forgetDepths ({ frames := 1, cells := 0, slots := 0, locals := 23 })).room s m ([.ref (q 24 i)] : List Value).toArray below meth c H locs 0 0 (MQ below (va_Qv (fun S' => Post S') (fun (S' : CST) t => va_P D vwCl (cW cI cZ cP cF q S') t.heap ∧ va_D A (cW cI cZ cP cF q S') ∧ S'.2 = S.2) A) ([.ref (q 24 i)] : List Value).toArray s 0 0 A) (F0 m 0 ls []) := by
    intro H locs hP hS
    refine lv_aload_n hx hb dX8_forgetDepths_0 rfl (lv_at hl 0 rfl) ?_
    have hi_1 := h.1
    have h := h.2
    obtain ⟨p_1, hp_1⟩ := cget_24 cI cZ cP cF q S hi_1
    refine va_get (D := D) (ci := 8) (v := .ref (q 27 i)) (C := RX8) (T := TX8) (N := 10) hx hb hts (fun _ h => List.mem_cons_of_mem _ (List.mem_append_right _ h)) hown hK hP p_1 hp_1 rfl 6 (by decide) (hts (.fieldLink RX8 25 "TemplateForge$Program" "depths" "[I") (List.mem_of_getElem? (i := 1) rfl)) (fun _ h9 => h9) rfl dX8_forgetDepths_1 ?_
    refine lv_iconst (v := (-1)) hx hb dX8_forgetDepths_4 (by decide) ?_
    have hFc := zm_free hD hS hA
    refine va_callv (va_runS (As := [.ref (q 27 i), .int (-1)]) (rest := []) ⟨hx, hb, hml, hown, hts⟩ (zd_J7_fill_53178_k27 l D cI cZ cP cF q S i (-1) H.size _ h) (va_cwS 2 hts zg_zd_X8_forgetDepths_zd_J7_fill_53178_k27_55 rfl rfl rfl (by decide +kernel) ⟨Nat.le_of_ble_eq_true rfl, Nat.le_of_ble_eq_true rfl⟩) ⟨zCW, fun U hU hW => ⟨rfl, by rw [hU], by rw [hU]; exact hP, hE.warm hW, hD.weaken (fun _ _ _ _ => trivial)⟩⟩ rfl rfl hl.1 rfl (lv_room (Nat.le_of_ble_eq_true rfl)) dX8_forgetDepths_5 ⟨Nat.le_of_ble_eq_true rfl, Nat.le_of_ble_eq_true rfl⟩) hS (fun q _ h => hFc q h) hFc (fun S2 t H locs ht hvm h hB hz1 hk1 hS => ?_)
    obtain ⟨hP, hD1, hN1⟩ := hB
    rw [ht] at hP
    have hD := hD1.weaken (fun k q _ hq => hFc q.1 hq)
    have hN := hN1.trans hN
    exact W.vret hx hb hr (fun t ht hW => ⟨⟨S2, rfl, h, by rw [ht]; exact hP, hD, hN⟩, hS.F ht⟩) hS.2.2 dX8_forgetDepths_8
  exact key _ _ hP va_S.rf

def wl_X10_mixedInto_14 (S : CST) (K_39 : Int64 → Prop) (Post : Int64 → Prop) : Nat → Int64 → Int32 → Prop
  | 0, _, _ => False
  | n_14 + 1, x14_1, x14_3 => ((4 ≤ x14_3) → ((K_39 x14_1))) ∧ ((¬ (4 ≤ x14_3)) → (vp_in x14_3 4 ∧ (wl_X10_mixedInto_14 S K_39 Post n_14 ((31 * x14_1) + ((cv S 210 0 (x14_3 : Int32).toNatClampNeg : Int32).toInt64)) (x14_3 + 1))))
def wp_X10_mixedInto (S : CST) (a1 : Int64) (Post : Int64 → Prop) : Prop :=
  ∃ n_14, wl_X10_mixedInto_14 S (fun x39_1 => Post x39_1) Post n_14 ((31 * a1) + ((cv S 205 0 0 : Int32).toInt64)) 0
def zw_zd_X10_mixedInto_w0 : List Cond := [.constantLong RX10 38 (31), .fieldLink RX10 31 "TemplateForge$Tally" "returned" "I", .fieldLink RX10 9 "TemplateForge$Tally" "trap" "[I"]
def zw_zd_X10_mixedInto : List Cond := .code yX10_mixedInto cX10_mixedInto 4 (some .long) :: ((zw_zd_X10_mixedInto_w0) ++ wsX100)
set_option maxHeartbeats 16000000 in
set_option maxRecDepth 100000 in
theorem zd_X10_mixedInto (l : Launch) (D : va_G) (cI cZ cP cF : Nat) (q : Nat → Nat → Nat) (S : CST) (a1 : Int64) (Post : Int64 → Prop) (h : wp_X10_mixedInto S a1 Post) : Met l yX10_mixedInto zw_zd_X10_mixedInto ({ frames := 0, cells := 0, slots := 0, locals := 0 }) (va_Pc [.ref (q 20 0), .long a1] (fun U => va_P D vwCl (cW cI cZ cP cF q S) U.heap ∧ zF D cI cZ cP cF U)) (vp_Sl Post) 0 0 (fun _ => False) := by
  unfold wp_X10_mixedInto at h
  refine Met.ofW (cc := cX10_mixedInto) (maxL := 4) (ret := (some .long)) (by decide) rfl ?_
  intro p e s m args below meth c s₁ B hml hv
  obtain ⟨rfl, hP, hE⟩ := hv
  have hx := B.exec
  have hb := B.bytes
  have hr := B.returns
  have hts := atoms_spec (ws := zw_zd_X10_mixedInto) B.pre
  have hown : s.vm.findClass RX10 = some m.cls := findClass_of_methodNamed B.named
  have hlocks := B.notSynchronized
  have hK := hE.k
  have hl := lv_entry ([.ref (q 20 0), .long a1]) (n := 4) (Nat.le_of_ble_eq_true rfl)
  rw [lg_entry_eq]
  generalize (lg_sl ([.ref (q 20 0), .long a1]) ++ List.replicate (4 - (lg_sl ([.ref (q 20 0), .long a1])).length) Slot.unset).toArray = ls at hl ⊢
  have hl : lv_has ls 4 [(0, .ref (q 20 0)), (1, .long a1)] := hl
  refine lv_ldc2 hx hb hown (hts (.constantLong RX10 38 (31)) (List.mem_of_getElem? (i := 1) rfl)) dX10_mixedInto_0 ?_
  refine lv_lload_n hx hb dX10_mixedInto_3 rfl (lv_at hl 1 rfl) ?_
  refine lv_lmul hx hb dX10_mixedInto_4 ?_
  refine lv_aload_n hx hb dX10_mixedInto_5 rfl (lv_at hl 0 rfl) ?_
  obtain ⟨p_1, hp_1⟩ := cget_20 cI cZ cP cF q S
  have hi_1 : cin S 20 0 := Or.inl ⟨by decide, rfl⟩
  refine va_get (D := D) (ci := 10) (v := .int (cv S 205 0 0)) (C := RX10) (T := TX10) (N := 7) hx hb hts (fun _ h => List.mem_cons_of_mem _ (List.mem_append_right _ h)) hown hK hP p_1 hp_1 rfl 5 (by decide) (hts (.fieldLink RX10 31 "TemplateForge$Tally" "returned" "I") (List.mem_of_getElem? (i := 2) rfl)) (fun _ h9 => h9) rfl dX10_mixedInto_6 ?_
  refine lv_i2l (v := (cv S 205 0 0 : Int32).toInt64) hx hb dX10_mixedInto_9 rfl ?_
  refine lv_ladd hx hb dX10_mixedInto_10 ?_
  refine lv_lstore_n (lv' := [(1, .long ((31 * a1) + ((cv S 205 0 0 : Int32).toInt64))), (0, .ref (q 20 0))]) hx hb dX10_mixedInto_11 rfl hl (by decide) rfl (fun ls hl => ?_)
  refine lv_iconst (v := 0) hx hb dX10_mixedInto_12 (by decide) ?_
  refine lv_istore_n (lv' := [(3, .int 0), (1, .long ((31 * a1) + ((cv S 205 0 0 : Int32).toInt64))), (0, .ref (q 20 0))]) hx hb dX10_mixedInto_13 rfl hl (by decide) rfl (fun ls hl => ?_)
  have EX_14_39 : ∀ (x39_1 : Int64) (ls : Array Slot), (Post x39_1) → lv_has ls 4 [(1, .long x39_1)] → W p l e (headSpec zw_zd_X10_mixedInto ({ frames := 0, cells := 0, slots := 0, locals := 0 })).room s m ([.ref (q 20 0), .long a1] : List Value).toArray below meth c s.heap [] 0 0 (MQ below (vp_Sl Post) ([.ref (q 20 0), .long a1] : List Value).toArray s 0 0 (fun _ => False)) (F0 m 39 ls []) := by
    intro x39_1 ls h hl
    refine lv_lload_n hx hb dX10_mixedInto_39 rfl (lv_at hl 0 rfl) ?_
    exact W.lret (v := x39_1) hx hb hr (fun t ht hW => ⟨_, rfl, h, ht⟩) (fun q h => by cases h) dX10_mixedInto_40
  have LP_14 : ∀ (n_14 : Nat), ∀ (x14_1 : Int64) (x14_3 : Int32) (ls : Array Slot), wl_X10_mixedInto_14 S (fun x39_1 => Post x39_1) Post n_14 x14_1 x14_3 → lv_has ls 4 [(0, .ref (q 20 0)), (1, .long x14_1), (3, .int x14_3)] → W p l e (headSpec zw_zd_X10_mixedInto ({ frames := 0, cells := 0, slots := 0, locals := 0 })).room s m ([.ref (q 20 0), .long a1] : List Value).toArray below meth c s.heap [] 0 0 (MQ below (vp_Sl Post) ([.ref (q 20 0), .long a1] : List Value).toArray s 0 0 (fun _ => False)) (F0 m 14 ls []) := by
    intro n_14
    induction n_14 with
    | zero =>
      intro x14_1 x14_3 ls h hl
      exact False.elim h
    | succ n_14 ih_14 =>
      intro x14_1 x14_3 ls h hl
      unfold wl_X10_mixedInto_14 at h
      refine lv_iload_n hx hb dX10_mixedInto_14 rfl (lv_at hl 2 rfl) ?_
      refine lv_iconst (v := 4) hx hb dX10_mixedInto_15 (by decide) ?_
      refine lv_icmp_ge (tgt := 39) hx hb dX10_mixedInto_16 (by decide) (fun c_2 => ?_) (fun c_2 => ?_)
      · have h := h.1 c_2
        exact EX_14_39  x14_1 _ h (lv_sub hl [1] rfl)
      · have h := h.2 c_2
        refine lv_ldc2 hx hb hown (hts (.constantLong RX10 38 (31)) (List.mem_of_getElem? (i := 1) rfl)) dX10_mixedInto_19 ?_
        refine lv_lload_n hx hb dX10_mixedInto_22 rfl (lv_at hl 1 rfl) ?_
        refine lv_lmul hx hb dX10_mixedInto_23 ?_
        refine lv_aload_n hx hb dX10_mixedInto_24 rfl (lv_at hl 0 rfl) ?_
        obtain ⟨p_3, hp_3⟩ := cget_20 cI cZ cP cF q S
        have hi_3 : cin S 20 0 := Or.inl ⟨by decide, rfl⟩
        refine va_get (D := D) (ci := 10) (v := .ref (q 21 0)) (C := RX10) (T := TX10) (N := 7) hx hb hts (fun _ h => List.mem_cons_of_mem _ (List.mem_append_right _ h)) hown hK hP p_3 hp_3 rfl 6 (by decide) (hts (.fieldLink RX10 9 "TemplateForge$Tally" "trap" "[I") (List.mem_of_getElem? (i := 3) rfl)) (fun _ h9 => h9) rfl dX10_mixedInto_25 ?_
        refine lv_iload_n hx hb dX10_mixedInto_28 rfl (lv_at hl 2 rfl) ?_
        obtain ⟨p_4, hp_4⟩ := cget_21 cI cZ cP cF q S
        have hi_4 : cin S 21 0 := Or.inl ⟨by decide, rfl⟩
        have hin_4 := h.1
        have h := h.2
        refine va_iald hx hb hK hP p_4 0 hp_4 rfl hin_4 dX10_mixedInto_29 ?_
        refine lv_i2l (v := (cv S 210 0 (x14_3 : Int32).toNatClampNeg : Int32).toInt64) hx hb dX10_mixedInto_30 rfl ?_
        refine lv_ladd hx hb dX10_mixedInto_31 ?_
        refine lv_lstore_n (lv' := [(1, .long ((31 * x14_1) + ((cv S 210 0 (x14_3 : Int32).toNatClampNeg : Int32).toInt64))), (0, .ref (q 20 0)), (3, .int x14_3)]) hx hb dX10_mixedInto_32 rfl hl (by decide) rfl (fun ls hl => ?_)
        refine lv_iinc (v := x14_3 + 1) (lv' := [(3, .int (x14_3 + 1)), (1, .long ((31 * x14_1) + ((cv S 210 0 (x14_3 : Int32).toNatClampNeg : Int32).toInt64))), (0, .ref (q 20 0))]) hx hb dX10_mixedInto_33 hl (k := 2) rfl rfl (by decide) rfl (fun ls hl => ?_)
        refine lv_goto (tgt := 14) hx hb dX10_mixedInto_36 (by decide) ?_
        exact ih_14  ((31 * x14_1) + ((cv S 210 0 (x14_3 : Int32).toNatClampNeg : Int32).toInt64)) (x14_3 + 1) _ h (lv_sub hl [2, 1, 0] rfl)
  obtain ⟨n_14, h⟩ := h
  exact LP_14 n_14 ((31 * a1) + ((cv S 205 0 0 : Int32).toInt64)) 0 _ h (lv_sub hl [2, 1, 0] rfl)

def wl_X0_isRight_2 (S : CST) (K_35 : Prop) (K_27 : Prop) (Post : Int32 → Prop) : Nat → Int32 → Prop
  | 0, _ => False
  | n_2 + 1, x2_1 => (((cv S 11 0 0) ≤ x2_1) → ((K_35 ))) ∧ ((¬ ((cv S 11 0 0) ≤ x2_1)) → (wp_X0_at S x2_1 (fun r4 => ((r4 < 0) → ((K_27 ))) ∧ ((¬ (r4 < 0)) → (cin S 24 ((r4 : Int32).toNatClampNeg) ∧ (wp_X8_isRight S ((r4 : Int32).toNatClampNeg) (fun r7 => ((¬ ((r7 : Int32) = 0)) → (wl_X0_isRight_2 S K_35 K_27 Post n_2 (x2_1 + 1))) ∧ (((r7 : Int32) = 0) → ((K_27 ))))))))))
def wp_X0_isRight (S : CST) (Post : Int32 → Prop) : Prop :=
  ∃ n_2, wl_X0_isRight_2 S (Post 1) (Post 0) Post n_2 0
def zw_zd_X0_isRight_w0 : List Cond := [.fieldLink RX0 17 "TemplateForge$Book" "told" "I", .code yX0_at cX0_at 2 (some (.object "TemplateForge$Program")), .fieldLink RX0 11 "TemplateForge$Book" "programs" "[LTemplateForge$Program;", .methodLink RX0 24 yX0_at, .instanceMethod yX0_at, .selects RX0 yX0_at yX0_at, .initialized RX0, .code yX8_isRight cX8_isRight 1 (some .boolean), .fieldLink RX8 28 "TemplateForge$Program" "deepest" "I", .methodLink RX0 28 yX8_isRight, .instanceMethod yX8_isRight, .selects RX8 yX8_isRight yX8_isRight, .initialized RX8]
def zw_zd_X0_isRight : List Cond := .code yX0_isRight cX0_isRight 3 (some .boolean) :: ((zw_zd_X0_isRight_w0) ++ wsX00 ++ wsX80)
set_option maxRecDepth 100000 in
theorem zg_zd_X0_isRight_zd_X0_at_24_a : GoodIn zw_zd_X0_isRight [.methodLink RX0 24 yX0_at, .instanceMethod yX0_at, .selects RX0 yX0_at yX0_at, .initialized RX0] := goodIn_r _ [4, 5, 6, 7] rfl (by decide +kernel)
set_option maxRecDepth 100000 in
theorem zg_zd_X0_isRight_zd_X0_at_24_c : GoodIn zw_zd_X0_isRight [.code yX0_at cX0_at 2 (some (.object "TemplateForge$Program"))] := goodIn_r _ [2] rfl (by decide +kernel)
set_option maxRecDepth 100000 in
theorem zg_zd_X0_isRight_zd_X0_at_24_0 : GoodIn zw_zd_X0_isRight zw_zd_X0_at_w0 := goodIn_r _ [1, 3] rfl (by decide +kernel)
theorem zg_zd_X0_isRight_zd_X0_at_24 : GoodIn zw_zd_X0_isRight (wsV RX0 24 RX0 yX0_at zw_zd_X0_at) := goodIn_app zg_zd_X0_isRight_zd_X0_at_24_a (goodIn_ca (a := (zw_zd_X0_at_w0)) (show GoodIn zw_zd_X0_isRight (.code yX0_at cX0_at 2 (some (.object "TemplateForge$Program")) :: (zw_zd_X0_at_w0)) from goodIn_app zg_zd_X0_isRight_zd_X0_at_24_c (zg_zd_X0_isRight_zd_X0_at_24_0)) (fun w h => ⟨(fun _ h => List.mem_cons_of_mem _ (List.mem_append_left _ (List.mem_append_right _ h))) w h, good_of_word (List.all_eq_true.mp zgw_X0 w h)⟩))
set_option maxRecDepth 100000 in
theorem zg_zd_X0_isRight_zd_X8_isRight_28_a : GoodIn zw_zd_X0_isRight [.methodLink RX0 28 yX8_isRight, .instanceMethod yX8_isRight, .selects RX8 yX8_isRight yX8_isRight, .initialized RX8] := goodIn_r _ [10, 11, 12, 13] rfl (by decide +kernel)
set_option maxRecDepth 100000 in
theorem zg_zd_X0_isRight_zd_X8_isRight_28_c : GoodIn zw_zd_X0_isRight [.code yX8_isRight cX8_isRight 1 (some .boolean)] := goodIn_r _ [8] rfl (by decide +kernel)
set_option maxRecDepth 100000 in
theorem zg_zd_X0_isRight_zd_X8_isRight_28_0 : GoodIn zw_zd_X0_isRight zw_zd_X8_isRight_w0 := goodIn_r _ [9] rfl (by decide +kernel)
theorem zg_zd_X0_isRight_zd_X8_isRight_28 : GoodIn zw_zd_X0_isRight (wsV RX0 28 RX8 yX8_isRight zw_zd_X8_isRight) := goodIn_app zg_zd_X0_isRight_zd_X8_isRight_28_a (goodIn_ca (a := (zw_zd_X8_isRight_w0)) (show GoodIn zw_zd_X0_isRight (.code yX8_isRight cX8_isRight 1 (some .boolean) :: (zw_zd_X8_isRight_w0)) from goodIn_app zg_zd_X0_isRight_zd_X8_isRight_28_c (zg_zd_X0_isRight_zd_X8_isRight_28_0)) (fun w h => ⟨(fun _ h => List.mem_cons_of_mem _ (List.mem_append_right _ h)) w h, good_of_word (List.all_eq_true.mp zgw_X8 w h)⟩))
set_option maxHeartbeats 16000000 in
set_option maxRecDepth 100000 in
theorem zd_X0_isRight (l : Launch) (D : va_G) (cI cZ cP cF : Nat) (q : Nat → Nat → Nat) (S : CST) (Post : Int32 → Prop) (h : wp_X0_isRight S Post) : Met l yX0_isRight zw_zd_X0_isRight ({ frames := 1, cells := 0, slots := 0, locals := 21 }) (va_Pc [.ref (q 1 0)] (fun U => va_P D vwCl (cW cI cZ cP cF q S) U.heap ∧ zF D cI cZ cP cF U)) (vp_Si Post) 0 0 (fun _ => False) := by
  unfold wp_X0_isRight at h
  refine Met.ofW (cc := cX0_isRight) (maxL := 3) (ret := (some .boolean)) (by decide) rfl ?_
  intro p e s m args below meth c s₁ B hml hv
  obtain ⟨rfl, hP, hE⟩ := hv
  have hx := B.exec
  have hb := B.bytes
  have hr := B.returns
  have hts := atoms_spec (ws := zw_zd_X0_isRight) B.pre
  have hown : s.vm.findClass RX0 = some m.cls := findClass_of_methodNamed B.named
  have hlocks := B.notSynchronized
  have hK := hE.k
  have hl := lv_entry ([.ref (q 1 0)]) (n := 3) (Nat.le_of_ble_eq_true rfl)
  rw [lg_entry_eq]
  generalize (lg_sl ([.ref (q 1 0)]) ++ List.replicate (3 - (lg_sl ([.ref (q 1 0)])).length) Slot.unset).toArray = ls at hl ⊢
  have hl : lv_has ls 3 [(0, .ref (q 1 0))] := hl
  refine lv_iconst (v := 0) hx hb dX0_isRight_0 (by decide) ?_
  refine lv_istore_n (lv' := [(1, .int 0), (0, .ref (q 1 0))]) hx hb dX0_isRight_1 rfl hl (by decide) rfl (fun ls hl => ?_)
  have EX_2_35 : ∀ (ls : Array Slot), (Post 1) → lv_has ls 3 [] → W p l e (headSpec zw_zd_X0_isRight ({ frames := 1, cells := 0, slots := 0, locals := 21 })).room s m ([.ref (q 1 0)] : List Value).toArray below meth c s.heap [] 0 0 (MQ below (vp_Si Post) ([.ref (q 1 0)] : List Value).toArray s 0 0 (fun _ => False)) (F0 m 35 ls []) := by
    intro  ls h hl
    refine lv_iconst (v := 1) hx hb dX0_isRight_35 (by decide) ?_
    exact W.zret (v := 1) (ty := .boolean) hx hb hr (by decide) (fun t ht hW => ⟨_, rfl, h, ht⟩) (fun q h => by cases h) dX0_isRight_36
  have EX_2_27 : ∀ (ls : Array Slot), (Post 0) → lv_has ls 3 [] → W p l e (headSpec zw_zd_X0_isRight ({ frames := 1, cells := 0, slots := 0, locals := 21 })).room s m ([.ref (q 1 0)] : List Value).toArray below meth c s.heap [] 0 0 (MQ below (vp_Si Post) ([.ref (q 1 0)] : List Value).toArray s 0 0 (fun _ => False)) (F0 m 27 ls []) := by
    intro  ls h hl
    refine lv_iconst (v := 0) hx hb dX0_isRight_27 (by decide) ?_
    exact W.zret (v := 0) (ty := .boolean) hx hb hr (by decide) (fun t ht hW => ⟨_, rfl, h, ht⟩) (fun q h => by cases h) dX0_isRight_28
  have LP_2 : ∀ (n_2 : Nat), ∀ (x2_1 : Int32) (ls : Array Slot), wl_X0_isRight_2 S (Post 1) (Post 0) Post n_2 x2_1 → lv_has ls 3 [(0, .ref (q 1 0)), (1, .int x2_1)] → W p l e (headSpec zw_zd_X0_isRight ({ frames := 1, cells := 0, slots := 0, locals := 21 })).room s m ([.ref (q 1 0)] : List Value).toArray below meth c s.heap [] 0 0 (MQ below (vp_Si Post) ([.ref (q 1 0)] : List Value).toArray s 0 0 (fun _ => False)) (F0 m 2 ls []) := by
    intro n_2
    induction n_2 with
    | zero =>
      intro x2_1 ls h hl
      exact False.elim h
    | succ n_2 ih_2 =>
      intro x2_1 ls h hl
      unfold wl_X0_isRight_2 at h
      refine lv_iload_n hx hb dX0_isRight_2 rfl (lv_at hl 1 rfl) ?_
      refine lv_aload_n hx hb dX0_isRight_3 rfl (lv_at hl 0 rfl) ?_
      obtain ⟨p_1, hp_1⟩ := cget_1 cI cZ cP cF q S
      have hi_1 : cin S 1 0 := Or.inl ⟨by decide, rfl⟩
      refine va_get (D := D) (ci := 0) (v := .int (cv S 11 0 0)) (C := RX0) (T := TX0) (N := 2) hx hb hts (fun _ h => List.mem_cons_of_mem _ (List.mem_append_left _ (List.mem_append_right _ h))) hown hK hP p_1 hp_1 rfl 1 (by decide) (hts (.fieldLink RX0 17 "TemplateForge$Book" "told" "I") (List.mem_of_getElem? (i := 1) rfl)) (fun _ h9 => h9) rfl dX0_isRight_4 ?_
      refine lv_icmp_ge (tgt := 35) hx hb dX0_isRight_7 (by decide) (fun c_2 => ?_) (fun c_2 => ?_)
      · have h := h.1 c_2
        exact EX_2_35  _ h (lv_sub hl [] rfl)
      · have h := h.2 c_2
        refine lv_aload_n hx hb dX0_isRight_10 rfl (lv_at hl 0 rfl) ?_
        refine lv_iload_n hx hb dX0_isRight_11 rfl (lv_at hl 1 rfl) ?_
        obtain ⟨p_3, hp_3⟩ := cget_1 cI cZ cP cF q S
        have hi_3 : cin S 1 0 := Or.inl ⟨by decide, rfl⟩
        refine va_csq (va_Run.run (va_runV (As := [.int x2_1]) (rest := []) ⟨hx, hb, hml, hown, hts⟩ (zd_X0_at l D cI cZ cP cF q S x2_1  _ h) (cwV 1 hts zg_zd_X0_isRight_zd_X0_at_24 rfl rfl rfl (by decide +kernel) ⟨Nat.le_of_ble_eq_true rfl, Nat.le_of_ble_eq_true rfl⟩) ⟨zCR, va_recv hK hP (ci := 0) (q0 := p_3) rfl hp_3, fun U hU hW => ⟨rfl, by rw [hU]; exact hP, hE.warm hW⟩⟩ rfl rfl hl.1 rfl (lv_room (Nat.le_of_ble_eq_true rfl)) dX0_isRight_12 ⟨Nat.le_of_ble_eq_true rfl, Nat.le_of_ble_eq_true rfl⟩)) (fun o_4 ho_4 => ?_)
        obtain ⟨r4, rfl, h⟩ := ho_4
        by_cases hn_5 : r4 < 0
        · have h := h.1 hn_5
          rw [show va_rf (cno q 24 r4) = .null from cn_neg hn_5]
          refine lv_astore_nN (lv' := [(2, .null), (0, .ref (q 1 0)), (1, .int x2_1)]) hx hb dX0_isRight_15 rfl hl (by decide) rfl (fun ls hl => ?_)
          refine lv_aload_nN hx hb dX0_isRight_16 rfl (lv_at hl 0 rfl) ?_
          refine lv_ifnullN (tgt := 27) hx hb dX0_isRight_17 (by decide) ?_
          exact EX_2_27  _ h (lv_sub hl [] rfl)
        · have h := h.2 hn_5
          rw [show va_rf (cno q 24 r4) = .ref (q 24 (r4 : Int32).toNatClampNeg) from cn_pos hn_5]
          refine lv_astore_n (lv' := [(2, .ref (q 24 ((r4 : Int32).toNatClampNeg))), (0, .ref (q 1 0)), (1, .int x2_1)]) hx hb dX0_isRight_15 rfl hl (by decide) rfl (fun ls hl => ?_)
          refine lv_aload_n hx hb dX0_isRight_16 rfl (lv_at hl 0 rfl) ?_
          refine lv_ifnull hx hb dX0_isRight_17 ?_
          refine lv_aload_n hx hb dX0_isRight_20 rfl (lv_at hl 0 rfl) ?_
          have hi_6 := h.1
          have h := h.2
          obtain ⟨p_6, hp_6⟩ := cget_24 cI cZ cP cF q S hi_6
          refine vp_callSi (va_Run.run (va_runV (As := []) (rest := []) ⟨hx, hb, hml, hown, hts⟩ (zd_X8_isRight l D cI cZ cP cF q S ((r4 : Int32).toNatClampNeg)  _ h) (cwV 0 hts zg_zd_X0_isRight_zd_X8_isRight_28 rfl rfl rfl (by decide +kernel) ⟨Nat.le_of_ble_eq_true rfl, Nat.le_of_ble_eq_true rfl⟩) ⟨zCR, va_recv hK hP (ci := 8) (q0 := p_6) rfl hp_6, fun U hU hW => ⟨rfl, by rw [hU]; exact hP, hE.warm hW⟩⟩ rfl rfl hl.1 rfl (lv_room (Nat.le_of_ble_eq_true rfl)) dX0_isRight_21 ⟨Nat.le_of_ble_eq_true rfl, Nat.le_of_ble_eq_true rfl⟩)) (fun r7 h => ?_)
          refine lv_if_ne (tgt := 29) hx hb dX0_isRight_24 (by decide) (fun c_8 => ?_) (fun c_8 => ?_)
          · have h := h.1 c_8
            refine lv_iinc (v := x2_1 + 1) (lv' := [(1, .int (x2_1 + 1)), (2, .ref (q 24 ((r4 : Int32).toNatClampNeg))), (0, .ref (q 1 0))]) hx hb dX0_isRight_29 hl (k := 2) rfl rfl (by decide) rfl (fun ls hl => ?_)
            refine lv_goto (tgt := 2) hx hb dX0_isRight_32 (by decide) ?_
            exact ih_2  (x2_1 + 1) _ h (lv_sub hl [2, 0] rfl)
          · have h := h.2 c_8
            exact EX_2_27  _ h (lv_sub hl [] rfl)
  obtain ⟨n_2, h⟩ := h
  exact LP_2 n_2 0 _ h (lv_sub hl [1, 0] rfl)

def wp_X0_taken (S : CST) (a1 : Int32) (a2 : Int32) (Post : Int32 → Prop) : Prop :=
  ((¬ ((a1 : Int32) = 11)) → ((((a1 : Int32) < 0) → (Post 0)) ∧ ((¬ ((a1 : Int32) < 0)) → (((20 ≤ a1) → (Post 0)) ∧ ((¬ (20 ≤ a1)) → (vp_in a1 20 ∧ (Post (zTK (a1 : Int32).toNatClampNeg)))))))) ∧ (((a1 : Int32) = 11) → (wp_X0_at S a2 (fun r7 => ((r7 < 0) → (Post 0)) ∧ ((¬ (r7 < 0)) → (cin S 24 ((r7 : Int32).toNatClampNeg) ∧ (Post (cv S 241 ((r7 : Int32).toNatClampNeg) 0)))))))
def zw_zd_X0_taken_w0 : List Cond := [.code yX0_at cX0_at 2 (some (.object "TemplateForge$Program")), .fieldLink RX0 17 "TemplateForge$Book" "told" "I", .fieldLink RX0 11 "TemplateForge$Book" "programs" "[LTemplateForge$Program;", .methodLink RX0 24 yX0_at, .instanceMethod yX0_at, .selects RX0 yX0_at yX0_at, .initialized RX0, .fieldLink RX0 32 "TemplateForge$Program" "args" "I"]
def zw_zd_X0_taken : List Cond := .code yX0_taken cX0_taken 4 (some .int) :: ((zw_zd_X0_taken_w0) ++ wsX00 ++ wsX80)
set_option maxRecDepth 100000 in
theorem zg_zd_X0_taken_zd_X0_at_24_a : GoodIn zw_zd_X0_taken [.methodLink RX0 24 yX0_at, .instanceMethod yX0_at, .selects RX0 yX0_at yX0_at, .initialized RX0] := goodIn_r _ [4, 5, 6, 7] rfl (by decide +kernel)
set_option maxRecDepth 100000 in
theorem zg_zd_X0_taken_zd_X0_at_24_c : GoodIn zw_zd_X0_taken [.code yX0_at cX0_at 2 (some (.object "TemplateForge$Program"))] := goodIn_r _ [1] rfl (by decide +kernel)
set_option maxRecDepth 100000 in
theorem zg_zd_X0_taken_zd_X0_at_24_0 : GoodIn zw_zd_X0_taken zw_zd_X0_at_w0 := goodIn_r _ [2, 3] rfl (by decide +kernel)
theorem zg_zd_X0_taken_zd_X0_at_24 : GoodIn zw_zd_X0_taken (wsV RX0 24 RX0 yX0_at zw_zd_X0_at) := goodIn_app zg_zd_X0_taken_zd_X0_at_24_a (goodIn_ca (a := (zw_zd_X0_at_w0)) (show GoodIn zw_zd_X0_taken (.code yX0_at cX0_at 2 (some (.object "TemplateForge$Program")) :: (zw_zd_X0_at_w0)) from goodIn_app zg_zd_X0_taken_zd_X0_at_24_c (zg_zd_X0_taken_zd_X0_at_24_0)) (fun w h => ⟨(fun _ h => List.mem_cons_of_mem _ (List.mem_append_left _ (List.mem_append_right _ h))) w h, good_of_word (List.all_eq_true.mp zgw_X0 w h)⟩))
set_option maxHeartbeats 16000000 in
set_option maxRecDepth 100000 in
theorem zd_X0_taken (l : Launch) (D : va_G) (cI cZ cP cF : Nat) (q : Nat → Nat → Nat) (S : CST) (a1 : Int32) (a2 : Int32) (Post : Int32 → Prop) (h : wp_X0_taken S a1 a2 Post) : Met l yX0_taken zw_zd_X0_taken ({ frames := 1, cells := 0, slots := 0, locals := 21 }) (va_Pc [.ref (q 1 0), .int a1, .int a2] (fun U => va_P D vwCl (cW cI cZ cP cF q S) U.heap ∧ zF D cI cZ cP cF U ∧ zT (fun _ => False) U U.heap)) (vp_Si Post) 0 0 (fun _ => False) := by
  unfold wp_X0_taken at h
  refine Met.ofW (cc := cX0_taken) (maxL := 4) (ret := (some .int)) (by decide) rfl ?_
  intro p e s m args below meth c s₁ B hml hv
  obtain ⟨rfl, hP, hE, hT⟩ := hv
  have hx := B.exec
  have hb := B.bytes
  have hr := B.returns
  have hts := atoms_spec (ws := zw_zd_X0_taken) B.pre
  have hown : s.vm.findClass RX0 = some m.cls := findClass_of_methodNamed B.named
  have hlocks := B.notSynchronized
  have hK := hE.k
  have hl := lv_entry ([.ref (q 1 0), .int a1, .int a2]) (n := 4) (Nat.le_of_ble_eq_true rfl)
  rw [lg_entry_eq]
  generalize (lg_sl ([.ref (q 1 0), .int a1, .int a2]) ++ List.replicate (4 - (lg_sl ([.ref (q 1 0), .int a1, .int a2])).length) Slot.unset).toArray = ls at hl ⊢
  have hl : lv_has ls 4 [(0, .ref (q 1 0)), (1, .int a1), (2, .int a2)] := hl
  refine lv_iload_n hx hb dX0_taken_0 rfl (lv_at hl 1 rfl) ?_
  refine lv_bipush (v := 11) hx hb dX0_taken_1 (by decide) ?_
  refine lv_icmp_ne (tgt := 25) hx hb dX0_taken_3 (by decide) (fun c_1 => ?_) (fun c_1 => ?_)
  · have h := h.1 c_1
    refine lv_iload_n hx hb dX0_taken_25 rfl (lv_at hl 1 rfl) ?_
    refine lv_if_lt (tgt := 43) hx hb dX0_taken_26 (by decide) (fun c_2 => ?_) (fun c_2 => ?_)
    · have h := h.1 c_2
      refine lv_iconst (v := 0) hx hb dX0_taken_43 (by decide) ?_
      exact W.iret (v := 0) hx hb hr (fun t ht hW => ⟨_, rfl, h, ht⟩) (fun q h => by cases h) dX0_taken_44
    · have h := h.2 c_2
      refine lv_iload_n hx hb dX0_taken_29 rfl (lv_at hl 1 rfl) ?_
      refine lv_bipush (v := 20) hx hb dX0_taken_30 (by decide) ?_
      refine lv_icmp_ge (tgt := 43) hx hb dX0_taken_32 (by decide) (fun c_3 => ?_) (fun c_3 => ?_)
      · have h := h.1 c_3
        refine lv_iconst (v := 0) hx hb dX0_taken_43 (by decide) ?_
        exact W.iret (v := 0) hx hb hr (fun t ht hW => ⟨_, rfl, h, ht⟩) (fun q h => by cases h) dX0_taken_44
      · have h := h.2 c_3
        obtain ⟨t1_4, t2_4, hz1_4, hz2_4, hz3_4, hz4_4⟩ := hT
        refine va_getsN hx hb hz1_4 (va_S.rf (A := fun _ => False)) hown (va_Nw.use rfl hE.fX0_35) (fun _ h9 => h9) dX0_taken_35 ?_
        refine lv_iload_n hx hb dX0_taken_38 rfl (lv_at hl 1 rfl) ?_
        have hin_5 := h.1
        have h := h.2
        refine va_ti hx hb hz2_4 (va_S.rf (A := fun _ => False)) hin_5 rfl dX0_taken_39 ?_
        refine lv_goto (tgt := 44) hx hb dX0_taken_40 (by decide) ?_
        exact W.iret (v := zTK (a1 : Int32).toNatClampNeg) hx hb hr (fun t ht hW => ⟨_, rfl, h, ht⟩) (fun q h => by cases h) dX0_taken_44
  · have h := h.2 c_1
    refine lv_aload_n hx hb dX0_taken_6 rfl (lv_at hl 0 rfl) ?_
    refine lv_iload_n hx hb dX0_taken_7 rfl (lv_at hl 2 rfl) ?_
    obtain ⟨p_6, hp_6⟩ := cget_1 cI cZ cP cF q S
    have hi_6 : cin S 1 0 := Or.inl ⟨by decide, rfl⟩
    refine va_csq (va_Run.run (va_runV (As := [.int a2]) (rest := []) ⟨hx, hb, hml, hown, hts⟩ (zd_X0_at l D cI cZ cP cF q S a2  _ h) (cwV 1 hts zg_zd_X0_taken_zd_X0_at_24 rfl rfl rfl (by decide +kernel) ⟨Nat.le_of_ble_eq_true rfl, Nat.le_of_ble_eq_true rfl⟩) ⟨zCR, va_recv hK hP (ci := 0) (q0 := p_6) rfl hp_6, fun U hU hW => ⟨rfl, by rw [hU]; exact hP, hE.warm hW⟩⟩ rfl rfl hl.1 rfl (lv_room (Nat.le_of_ble_eq_true rfl)) dX0_taken_8 ⟨Nat.le_of_ble_eq_true rfl, Nat.le_of_ble_eq_true rfl⟩)) (fun o_7 ho_7 => ?_)
    obtain ⟨r7, rfl, h⟩ := ho_7
    by_cases hn_8 : r7 < 0
    · have h := h.1 hn_8
      rw [show va_rf (cno q 24 r7) = .null from cn_neg hn_8]
      refine lv_astore_nN (lv' := [(3, .null), (0, .ref (q 1 0)), (1, .int a1), (2, .int a2)]) hx hb dX0_taken_11 rfl hl (by decide) rfl (fun ls hl => ?_)
      refine lv_aload_nN hx hb dX0_taken_12 rfl (lv_at hl 0 rfl) ?_
      refine lv_ifnonnullN hx hb dX0_taken_13 ?_
      refine lv_iconst (v := 0) hx hb dX0_taken_16 (by decide) ?_
      refine lv_goto (tgt := 24) hx hb dX0_taken_17 (by decide) ?_
      exact W.iret (v := 0) hx hb hr (fun t ht hW => ⟨_, rfl, h, ht⟩) (fun q h => by cases h) dX0_taken_24
    · have h := h.2 hn_8
      rw [show va_rf (cno q 24 r7) = .ref (q 24 (r7 : Int32).toNatClampNeg) from cn_pos hn_8]
      refine lv_astore_n (lv' := [(3, .ref (q 24 ((r7 : Int32).toNatClampNeg))), (0, .ref (q 1 0)), (1, .int a1), (2, .int a2)]) hx hb dX0_taken_11 rfl hl (by decide) rfl (fun ls hl => ?_)
      refine lv_aload_n hx hb dX0_taken_12 rfl (lv_at hl 0 rfl) ?_
      refine lv_ifnonnull (tgt := 20) hx hb dX0_taken_13 (by decide) ?_
      refine lv_aload_n hx hb dX0_taken_20 rfl (lv_at hl 0 rfl) ?_
      have hi_9 := h.1
      have h := h.2
      obtain ⟨p_9, hp_9⟩ := cget_24 cI cZ cP cF q S hi_9
      refine va_get (D := D) (ci := 8) (v := .int (cv S 241 ((r7 : Int32).toNatClampNeg) 0)) (C := RX8) (T := TX8) (N := 10) hx hb hts (fun _ h => List.mem_cons_of_mem _ (List.mem_append_right _ h)) hown hK hP p_9 hp_9 rfl 1 (by decide) (hts (.fieldLink RX0 32 "TemplateForge$Program" "args" "I") (List.mem_of_getElem? (i := 8) rfl)) (fun _ h9 => h9) rfl dX0_taken_21 ?_
      exact W.iret (v := cv S 241 ((r7 : Int32).toNatClampNeg) 0) hx hb hr (fun t ht hW => ⟨_, rfl, h, ht⟩) (fun q h => by cases h) dX0_taken_24

def wp_X5_take (S : CST) (i : Nat) (i1 : Nat) (Post : CST → Prop) : Prop :=
  cin S 28 i ∧ i1 < 2147483648 ∧ (∀ S2 : CST, S2 = cs S 281 i (fun _ => (nI i1)) → (cin S2 28 i ∧ (∀ S5 : CST, S5 = cs S2 280 i (fun _ => 1) → (cin S5 32 i1 ∧ (cin S5 28 i ∧ (∀ S8 : CST, S8 = cs S5 283 i (fun _ => cv S5 320 i1 0) → (Post S8)))))))
def zw_zd_X5_take_w0 : List Cond := [.fieldLink RX5 39 "TemplateForge$Heat" "latest" "LTemplateForge$Code;", .fieldLink RX5 22 "TemplateForge$Heat" "hasCode" "Z", .fieldLink RX5 43 "TemplateForge$Code" "making" "I", .fieldLink RX5 48 "TemplateForge$Heat" "made" "I"]
def zw_zd_X5_take : List Cond := .code yX5_take cX5_take 2 none :: ((zw_zd_X5_take_w0) ++ wsX50 ++ wsX10)
set_option maxHeartbeats 16000000 in
set_option maxRecDepth 100000 in
theorem zd_X5_take (l : Launch) (D : va_G) (cI cZ cP cF : Nat) (q : Nat → Nat → Nat) (S : CST) (i : Nat) (i1 : Nat) (sz : Nat) (Post : CST → Prop) (h : wp_X5_take S i i1 Post) : Met l yX5_take zw_zd_X5_take ({ frames := 0, cells := 0, slots := 0, locals := 0 }) (va_Pc [.ref (q 28 i), .ref (q 32 i1)] (fun U => U.heap.size = sz ∧ va_P D vwCl (cW cI cZ cP cF q S) U.heap ∧ zF D cI cZ cP cF U ∧ va_D (fun _ => True) (cW cI cZ cP cF q S))) (va_Qv (fun S' => Post S') (fun (S' : CST) t => va_P D vwCl (cW cI cZ cP cF q S') t.heap ∧ va_D (va_A (cW cI cZ cP cF q S) sz) (cW cI cZ cP cF q S') ∧ S'.2 = S.2) (va_A (cW cI cZ cP cF q S) sz)) 0 0 (va_A (cW cI cZ cP cF q S) sz) := by
  unfold wp_X5_take at h
  refine Met.ofW (cc := cX5_take) (maxL := 2) (ret := none) (by decide) rfl ?_
  intro p e s m args below meth c s₁ B hml hv
  obtain ⟨rfl, hsz, hP, hE, hD0⟩ := hv
  have hx := B.exec
  have hb := B.bytes
  have hr := B.returns
  have hts := atoms_spec (ws := zw_zd_X5_take) B.pre
  have hown : s.vm.findClass RX5 = some m.cls := findClass_of_methodNamed B.named
  have hlocks := B.notSynchronized
  have hK := hE.k
  subst hsz
  have hD := hD0.self (sz := s.heap.size)
  generalize hAe : va_A (cW cI cZ cP cF q S) s.heap.size = A at hD ⊢
  have hA : ∀ q : Nat, s.heap.size ≤ q → A q := fun q h => by rw [← hAe]; exact Or.inr h
  have hN : S.2 = S.2 := rfl
  have hl := lv_entry ([.ref (q 28 i), .ref (q 32 i1)]) (n := 2) (Nat.le_of_ble_eq_true rfl)
  rw [lg_entry_eq]
  generalize (lg_sl ([.ref (q 28 i), .ref (q 32 i1)]) ++ List.replicate (2 - (lg_sl ([.ref (q 28 i), .ref (q 32 i1)])).length) Slot.unset).toArray = ls at hl ⊢
  have hl : lv_has ls 2 [(0, .ref (q 28 i)), (1, .ref (q 32 i1))] := hl
  have key : ∀ (H : Heap) (locs : List Loc), va_P D vwCl (cW cI cZ cP cF q S) H → va_S A s.heap H locs → W p l e (headSpec zw_zd_X5_take ({ frames := 0, cells := 0, slots := 0, locals := 0 })).room s m ([.ref (q 28 i), .ref (q 32 i1)] : List Value).toArray below meth c H locs 0 0 (MQ below (va_Qv (fun S' => Post S') (fun (S' : CST) t => va_P D vwCl (cW cI cZ cP cF q S') t.heap ∧ va_D A (cW cI cZ cP cF q S') ∧ S'.2 = S.2) A) ([.ref (q 28 i), .ref (q 32 i1)] : List Value).toArray s 0 0 A) (F0 m 0 ls []) := by
    intro H locs hP hS
    refine lv_aload_n hx hb dX5_take_0 rfl (lv_at hl 0 rfl) ?_
    refine lv_aload_n hx hb dX5_take_1 rfl (lv_at hl 1 rfl) ?_
    have hi_1 := h.1
    have h := h.2
    obtain ⟨p_1, hp_1⟩ := cget_28 cI cZ cP cF q S hi_1
    have hb_3 := h.1
    have h := h.2
    have hD0_1 := hD
    refine va_put (D := D) (ci := 5) (v := .ref (q 32 i1)) (ty := .object "TemplateForge$Code") (C := RX5) (T := TX5) (N := 9) hx hb hts (fun _ h => List.mem_cons_of_mem _ (List.mem_append_left _ (List.mem_append_right _ h))) tyX5 tyX5_ok nmX5 hown hK hP hD hS p_1 hp_1 rfl 1 (by decide) (hts (.fieldLink RX5 39 "TemplateForge$Heat" "latest" "LTemplateForge$Code;") (List.mem_of_getElem? (i := 1) rfl)) (fun _ h9 => h9) rfl (by decide +kernel) rfl rfl (Nat.le_of_ble_eq_true rfl) dX5_take_2 (fun H locs hP hD hS => ?_)
    obtain ⟨S2, eS2⟩ : ∃ z, z = cs S 281 i (fun _ => (nI i1)) := ⟨_, rfl⟩
    have hP : va_P D vwCl (cW cI cZ cP cF q S2) H := by rw [eS2, ← cW_put (k := 281) (κ := 28) (i := i) (g := (fun _ => (nI i1))) rfl hD0_1 hp_1 hi_1, cput_281, show cn q 32 (nI i1) = .ref (q 32 i1) from cn_nI hb_3]; exact hP
    have hD : va_D A (cW cI cZ cP cF q S2) := by rw [eS2, ← cW_put (k := 281) (κ := 28) (i := i) (g := (fun _ => (nI i1))) rfl hD0_1 hp_1 hi_1, cput_281, show cn q 32 (nI i1) = .ref (q 32 i1) from cn_nI hb_3]; exact hD
    have hN : S2.2 = S.2 := by rw [eS2]; exact hN
    have h := h S2 eS2
    refine lv_aload_n hx hb dX5_take_5 rfl (lv_at hl 0 rfl) ?_
    refine lv_iconst (v := 1) hx hb dX5_take_6 (by decide) ?_
    have hi_4 := h.1
    have h := h.2
    obtain ⟨p_4, hp_4⟩ := cget_28 cI cZ cP cF q S2 hi_4
    have hD0_4 := hD
    refine va_put (D := D) (ci := 5) (v := .int 1) (ty := .boolean) (C := RX5) (T := TX5) (N := 9) hx hb hts (fun _ h => List.mem_cons_of_mem _ (List.mem_append_left _ (List.mem_append_right _ h))) tyX5 tyX5_ok nmX5 hown hK hP hD hS p_4 hp_4 rfl 0 (by decide) (hts (.fieldLink RX5 22 "TemplateForge$Heat" "hasCode" "Z") (List.mem_of_getElem? (i := 2) rfl)) (fun _ h9 => h9) rfl (by decide +kernel) rfl rfl (Nat.le_of_ble_eq_true rfl) dX5_take_7 (fun H locs hP hD hS => ?_)
    obtain ⟨S5, eS5⟩ : ∃ z, z = cs S2 280 i (fun _ => 1) := ⟨_, rfl⟩
    have hP : va_P D vwCl (cW cI cZ cP cF q S5) H := by rw [eS5, ← cW_put (k := 280) (κ := 28) (i := i) (g := (fun _ => 1)) rfl hD0_4 hp_4 hi_4, cput_280]; exact hP
    have hD : va_D A (cW cI cZ cP cF q S5) := by rw [eS5, ← cW_put (k := 280) (κ := 28) (i := i) (g := (fun _ => 1)) rfl hD0_4 hp_4 hi_4, cput_280]; exact hD
    have hN : S5.2 = S.2 := by rw [eS5]; exact hN
    have h := h S5 eS5
    refine lv_aload_n hx hb dX5_take_10 rfl (lv_at hl 0 rfl) ?_
    refine lv_aload_n hx hb dX5_take_11 rfl (lv_at hl 1 rfl) ?_
    have hi_6 := h.1
    have h := h.2
    obtain ⟨p_6, hp_6⟩ := cget_32 cI cZ cP cF q S5 hi_6
    refine va_get (D := D) (ci := 1) (v := .int (cv S5 320 i1 0)) (C := RX1) (T := TX1) (N := 4) hx hb hts (fun _ h => List.mem_cons_of_mem _ (List.mem_append_right _ h)) hown hK hP p_6 hp_6 rfl 0 (by decide) (hts (.fieldLink RX5 43 "TemplateForge$Code" "making" "I") (List.mem_of_getElem? (i := 3) rfl)) (fun _ h9 => h9) rfl dX5_take_12 ?_
    have hi_7 := h.1
    have h := h.2
    obtain ⟨p_7, hp_7⟩ := cget_28 cI cZ cP cF q S5 hi_7
    have hD0_7 := hD
    refine va_put (D := D) (ci := 5) (v := .int (cv S5 320 i1 0)) (ty := .int) (C := RX5) (T := TX5) (N := 9) hx hb hts (fun _ h => List.mem_cons_of_mem _ (List.mem_append_left _ (List.mem_append_right _ h))) tyX5 tyX5_ok nmX5 hown hK hP hD hS p_7 hp_7 rfl 3 (by decide) (hts (.fieldLink RX5 48 "TemplateForge$Heat" "made" "I") (List.mem_of_getElem? (i := 4) rfl)) (fun _ h9 => h9) rfl (by decide +kernel) rfl rfl (Nat.le_of_ble_eq_true rfl) dX5_take_15 (fun H locs hP hD hS => ?_)
    obtain ⟨S8, eS8⟩ : ∃ z, z = cs S5 283 i (fun _ => cv S5 320 i1 0) := ⟨_, rfl⟩
    have hP : va_P D vwCl (cW cI cZ cP cF q S8) H := by rw [eS8, ← cW_put (k := 283) (κ := 28) (i := i) (g := (fun _ => cv S5 320 i1 0)) rfl hD0_7 hp_7 hi_7, cput_283]; exact hP
    have hD : va_D A (cW cI cZ cP cF q S8) := by rw [eS8, ← cW_put (k := 283) (κ := 28) (i := i) (g := (fun _ => cv S5 320 i1 0)) rfl hD0_7 hp_7 hi_7, cput_283]; exact hD
    have hN : S8.2 = S.2 := by rw [eS8]; exact hN
    have h := h S8 eS8
    exact W.vret hx hb hr (fun t ht hW => ⟨⟨S8, rfl, h, by rw [ht]; exact hP, hD, hN⟩, hS.F ht⟩) hS.2.2 dX5_take_18
  exact key _ _ hP va_S.rf
