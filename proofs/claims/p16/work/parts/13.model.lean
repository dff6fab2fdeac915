def wl_X12_remember_r_3 (K_142 : MST → Int32 → Prop) (Post : MST → Prop) : Nat → MST → Int32 → Int32 → Int32 → Prop
  | 0, _, _, _, _ => False
  | n_3 + 1, S_3, x3_1, x3_3, x3_4 => ((11 ≤ x3_4) → ((K_142 S_3 x3_1))) ∧ ((¬ (11 ≤ x3_4)) → (((3 ≤ x3_4) → (vp_in (x3_4 - 3) 8 ∧ (vp_in x3_1 8 ∧ (((¬ (((S_3 16 (x3_1 : Int32).toNatClampNeg) : Int32) = 0)) → (vp_in ((11 * x3_1) + x3_4) 88 ∧ (((((S_3 21 ((11 * x3_1) + x3_4 : Int32).toNatClampNeg) : Int32) = 0) → (vp_in ((11 * x3_1) + x3_4) 88 ∧ (∀ S10 : MST, S10 = ms S_3 21 (upd (S_3 21) ((11 * x3_1) + x3_4 : Int32).toNatClampNeg (vp_nar .boolean 0)) → (wl_X12_remember_r_3 K_142 Post n_3 S10 x3_1 x3_3 (x3_4 + 1))))) ∧ ((¬ (((S_3 21 ((11 * x3_1) + x3_4 : Int32).toNatClampNeg) : Int32) = 0)) → (vp_in ((11 * x3_1) + x3_4) 88 ∧ (((¬ (((S_3 20 ((11 * x3_1) + x3_4 : Int32).toNatClampNeg) : Int32) = (S_3 12 (x3_4 - 3 : Int32).toNatClampNeg))) → (vp_in ((11 * x3_1) + x3_4) 88 ∧ (∀ S13 : MST, S13 = ms S_3 21 (upd (S_3 21) ((11 * x3_1) + x3_4 : Int32).toNatClampNeg (vp_nar .boolean 0)) → (wl_X12_remember_r_3 K_142 Post n_3 S13 x3_1 x3_3 (x3_4 + 1))))) ∧ ((((S_3 20 ((11 * x3_1) + x3_4 : Int32).toNatClampNeg) : Int32) = (S_3 12 (x3_4 - 3 : Int32).toNatClampNeg)) → (vp_in ((11 * x3_1) + x3_4) 88 ∧ (∀ S14 : MST, S14 = ms S_3 21 (upd (S_3 21) ((11 * x3_1) + x3_4 : Int32).toNatClampNeg (vp_nar .boolean 1)) → (wl_X12_remember_r_3 K_142 Post n_3 S14 x3_1 x3_3 (x3_4 + 1))))))))))) ∧ ((((S_3 16 (x3_1 : Int32).toNatClampNeg) : Int32) = 0) → (vp_in ((11 * x3_1) + x3_4) 88 ∧ (∀ S15 : MST, S15 = ms S_3 20 (upd (S_3 20) ((11 * x3_1) + x3_4 : Int32).toNatClampNeg (S_3 12 (x3_4 - 3 : Int32).toNatClampNeg)) → (vp_in ((11 * x3_1) + x3_4) 88 ∧ (∀ S16 : MST, S16 = ms S15 21 (upd (S15 21) ((11 * x3_1) + x3_4 : Int32).toNatClampNeg (vp_nar .boolean 1)) → (vp_in ((11 * x3_1) + x3_4) 88 ∧ (((((S16 21 ((11 * x3_1) + x3_4 : Int32).toNatClampNeg) : Int32) = 0) → (vp_in ((11 * x3_1) + x3_4) 88 ∧ (∀ S19 : MST, S19 = ms S16 21 (upd (S16 21) ((11 * x3_1) + x3_4 : Int32).toNatClampNeg (vp_nar .boolean 0)) → (wl_X12_remember_r_3 K_142 Post n_3 S19 x3_1 x3_3 (x3_4 + 1))))) ∧ ((¬ (((S16 21 ((11 * x3_1) + x3_4 : Int32).toNatClampNeg) : Int32) = 0)) → (vp_in ((11 * x3_1) + x3_4) 88 ∧ (((¬ (((S16 20 ((11 * x3_1) + x3_4 : Int32).toNatClampNeg) : Int32) = (S_3 12 (x3_4 - 3 : Int32).toNatClampNeg))) → (vp_in ((11 * x3_1) + x3_4) 88 ∧ (∀ S22 : MST, S22 = ms S16 21 (upd (S16 21) ((11 * x3_1) + x3_4 : Int32).toNatClampNeg (vp_nar .boolean 0)) → (wl_X12_remember_r_3 K_142 Post n_3 S22 x3_1 x3_3 (x3_4 + 1))))) ∧ ((((S16 20 ((11 * x3_1) + x3_4 : Int32).toNatClampNeg) : Int32) = (S_3 12 (x3_4 - 3 : Int32).toNatClampNeg)) → (vp_in ((11 * x3_1) + x3_4) 88 ∧ (∀ S23 : MST, S23 = ms S16 21 (upd (S16 21) ((11 * x3_1) + x3_4 : Int32).toNatClampNeg (vp_nar .boolean 1)) → (wl_X12_remember_r_3 K_142 Post n_3 S23 x3_1 x3_3 (x3_4 + 1))))))))))))))))))) ∧ ((¬ (3 ≤ x3_4)) → (vp_in x3_1 8 ∧ ((((S_3 1 (x3_1 : Int32).toNatClampNeg) ≤ x3_4) → (vp_in x3_1 8 ∧ (((¬ (((S_3 16 (x3_1 : Int32).toNatClampNeg) : Int32) = 0)) → (vp_in ((11 * x3_1) + x3_4) 88 ∧ (((((S_3 21 ((11 * x3_1) + x3_4 : Int32).toNatClampNeg) : Int32) = 0) → (vp_in ((11 * x3_1) + x3_4) 88 ∧ (∀ S30 : MST, S30 = ms S_3 21 (upd (S_3 21) ((11 * x3_1) + x3_4 : Int32).toNatClampNeg (vp_nar .boolean 0)) → (wl_X12_remember_r_3 K_142 Post n_3 S30 x3_1 x3_3 (x3_4 + 1))))) ∧ ((¬ (((S_3 21 ((11 * x3_1) + x3_4 : Int32).toNatClampNeg) : Int32) = 0)) → (vp_in ((11 * x3_1) + x3_4) 88 ∧ (((¬ (((S_3 20 ((11 * x3_1) + x3_4 : Int32).toNatClampNeg) : Int32) = 0)) → (vp_in ((11 * x3_1) + x3_4) 88 ∧ (∀ S33 : MST, S33 = ms S_3 21 (upd (S_3 21) ((11 * x3_1) + x3_4 : Int32).toNatClampNeg (vp_nar .boolean 0)) → (wl_X12_remember_r_3 K_142 Post n_3 S33 x3_1 x3_3 (x3_4 + 1))))) ∧ ((((S_3 20 ((11 * x3_1) + x3_4 : Int32).toNatClampNeg) : Int32) = 0) → (vp_in ((11 * x3_1) + x3_4) 88 ∧ (∀ S34 : MST, S34 = ms S_3 21 (upd (S_3 21) ((11 * x3_1) + x3_4 : Int32).toNatClampNeg (vp_nar .boolean 1)) → (wl_X12_remember_r_3 K_142 Post n_3 S34 x3_1 x3_3 (x3_4 + 1))))))))))) ∧ ((((S_3 16 (x3_1 : Int32).toNatClampNeg) : Int32) = 0) → (vp_in ((11 * x3_1) + x3_4) 88 ∧ (∀ S35 : MST, S35 = ms S_3 20 (upd (S_3 20) ((11 * x3_1) + x3_4 : Int32).toNatClampNeg 0) → (vp_in ((11 * x3_1) + x3_4) 88 ∧ (∀ S36 : MST, S36 = ms S35 21 (upd (S35 21) ((11 * x3_1) + x3_4 : Int32).toNatClampNeg (vp_nar .boolean 1)) → (vp_in ((11 * x3_1) + x3_4) 88 ∧ (((((S36 21 ((11 * x3_1) + x3_4 : Int32).toNatClampNeg) : Int32) = 0) → (vp_in ((11 * x3_1) + x3_4) 88 ∧ (∀ S39 : MST, S39 = ms S36 21 (upd (S36 21) ((11 * x3_1) + x3_4 : Int32).toNatClampNeg (vp_nar .boolean 0)) → (wl_X12_remember_r_3 K_142 Post n_3 S39 x3_1 x3_3 (x3_4 + 1))))) ∧ ((¬ (((S36 21 ((11 * x3_1) + x3_4 : Int32).toNatClampNeg) : Int32) = 0)) → (vp_in ((11 * x3_1) + x3_4) 88 ∧ (((¬ (((S36 20 ((11 * x3_1) + x3_4 : Int32).toNatClampNeg) : Int32) = 0)) → (vp_in ((11 * x3_1) + x3_4) 88 ∧ (∀ S42 : MST, S42 = ms S36 21 (upd (S36 21) ((11 * x3_1) + x3_4 : Int32).toNatClampNeg (vp_nar .boolean 0)) → (wl_X12_remember_r_3 K_142 Post n_3 S42 x3_1 x3_3 (x3_4 + 1))))) ∧ ((((S36 20 ((11 * x3_1) + x3_4 : Int32).toNatClampNeg) : Int32) = 0) → (vp_in ((11 * x3_1) + x3_4) 88 ∧ (∀ S43 : MST, S43 = ms S36 21 (upd (S36 21) ((11 * x3_1) + x3_4 : Int32).toNatClampNeg (vp_nar .boolean 1)) → (wl_X12_remember_r_3 K_142 Post n_3 S43 x3_1 x3_3 (x3_4 + 1)))))))))))))))))) ∧ ((¬ ((S_3 1 (x3_1 : Int32).toNatClampNeg) ≤ x3_4)) → (vp_in (x3_3 + x3_4) 240 ∧ (vp_in x3_1 8 ∧ (((¬ (((S_3 16 (x3_1 : Int32).toNatClampNeg) : Int32) = 0)) → (vp_in ((11 * x3_1) + x3_4) 88 ∧ (((((S_3 21 ((11 * x3_1) + x3_4 : Int32).toNatClampNeg) : Int32) = 0) → (vp_in ((11 * x3_1) + x3_4) 88 ∧ (∀ S49 : MST, S49 = ms S_3 21 (upd (S_3 21) ((11 * x3_1) + x3_4 : Int32).toNatClampNeg (vp_nar .boolean 0)) → (wl_X12_remember_r_3 K_142 Post n_3 S49 x3_1 x3_3 (x3_4 + 1))))) ∧ ((¬ (((S_3 21 ((11 * x3_1) + x3_4 : Int32).toNatClampNeg) : Int32) = 0)) → (vp_in ((11 * x3_1) + x3_4) 88 ∧ (((¬ (((S_3 20 ((11 * x3_1) + x3_4 : Int32).toNatClampNeg) : Int32) = (S_3 42 (x3_3 + x3_4 : Int32).toNatClampNeg))) → (vp_in ((11 * x3_1) + x3_4) 88 ∧ (∀ S52 : MST, S52 = ms S_3 21 (upd (S_3 21) ((11 * x3_1) + x3_4 : Int32).toNatClampNeg (vp_nar .boolean 0)) → (wl_X12_remember_r_3 K_142 Post n_3 S52 x3_1 x3_3 (x3_4 + 1))))) ∧ ((((S_3 20 ((11 * x3_1) + x3_4 : Int32).toNatClampNeg) : Int32) = (S_3 42 (x3_3 + x3_4 : Int32).toNatClampNeg)) → (vp_in ((11 * x3_1) + x3_4) 88 ∧ (∀ S53 : MST, S53 = ms S_3 21 (upd (S_3 21) ((11 * x3_1) + x3_4 : Int32).toNatClampNeg (vp_nar .boolean 1)) → (wl_X12_remember_r_3 K_142 Post n_3 S53 x3_1 x3_3 (x3_4 + 1))))))))))) ∧ ((((S_3 16 (x3_1 : Int32).toNatClampNeg) : Int32) = 0) → (vp_in ((11 * x3_1) + x3_4) 88 ∧ (∀ S54 : MST, S54 = ms S_3 20 (upd (S_3 20) ((11 * x3_1) + x3_4 : Int32).toNatClampNeg (S_3 42 (x3_3 + x3_4 : Int32).toNatClampNeg)) → (vp_in ((11 * x3_1) + x3_4) 88 ∧ (∀ S55 : MST, S55 = ms S54 21 (upd (S54 21) ((11 * x3_1) + x3_4 : Int32).toNatClampNeg (vp_nar .boolean 1)) → (vp_in ((11 * x3_1) + x3_4) 88 ∧ (((((S55 21 ((11 * x3_1) + x3_4 : Int32).toNatClampNeg) : Int32) = 0) → (vp_in ((11 * x3_1) + x3_4) 88 ∧ (∀ S58 : MST, S58 = ms S55 21 (upd (S55 21) ((11 * x3_1) + x3_4 : Int32).toNatClampNeg (vp_nar .boolean 0)) → (wl_X12_remember_r_3 K_142 Post n_3 S58 x3_1 x3_3 (x3_4 + 1))))) ∧ ((¬ (((S55 21 ((11 * x3_1) + x3_4 : Int32).toNatClampNeg) : Int32) = 0)) → (vp_in ((11 * x3_1) + x3_4) 88 ∧ (((¬ (((S55 20 ((11 * x3_1) + x3_4 : Int32).toNatClampNeg) : Int32) = (S_3 42 (x3_3 + x3_4 : Int32).toNatClampNeg))) → (vp_in ((11 * x3_1) + x3_4) 88 ∧ (∀ S61 : MST, S61 = ms S55 21 (upd (S55 21) ((11 * x3_1) + x3_4 : Int32).toNatClampNeg (vp_nar .boolean 0)) → (wl_X12_remember_r_3 K_142 Post n_3 S61 x3_1 x3_3 (x3_4 + 1))))) ∧ ((((S55 20 ((11 * x3_1) + x3_4 : Int32).toNatClampNeg) : Int32) = (S_3 42 (x3_3 + x3_4 : Int32).toNatClampNeg)) → (vp_in ((11 * x3_1) + x3_4) 88 ∧ (∀ S62 : MST, S62 = ms S55 21 (upd (S55 21) ((11 * x3_1) + x3_4 : Int32).toNatClampNeg (vp_nar .boolean 1)) → (wl_X12_remember_r_3 K_142 Post n_3 S62 x3_1 x3_3 (x3_4 + 1))))))))))))))))))))))))
def wp_X12_remember_r (S : MST) (a1 : Int32) (a3 : Int32) (Post : MST → Prop) : Prop :=
  ∃ n_3, wl_X12_remember_r_3 (fun S_142 x142_1 => vp_in x142_1 8 ∧ (vp_in x142_1 8 ∧ (∀ S2 : MST, S2 = ms S_142 16 (upd (S_142 16) (x142_1 : Int32).toNatClampNeg ((S_142 16 (x142_1 : Int32).toNatClampNeg) + 1)) → (Post S2)))) Post n_3 S a1 a3 0
def zw_zd_X12_remember_r_w0 : List Cond := [.fieldLink RX12 53 "TemplateForgeModel" "counted" "[I", .fieldLink RX12 41 "TemplateForgeModel" "fields" "[I", .fieldLink RX12 68 "TemplateForgeModel" "isLike" "[Z", .fieldLink RX12 65 "TemplateForgeModel" "value" "[I", .fieldLink RX12 7 "TemplateForgeModel" "args" "[I"]
def zw_zd_X12_remember_r : List Cond := .code yX12_remember cX12_remember 6 none :: ((zw_zd_X12_remember_r_w0) ++ wsX120)
set_option maxHeartbeats 16000000 in
set_option maxRecDepth 100000 in
theorem zd_X12_remember_r (l : Launch) (D : va_G) (cI cZ cP cF : Nat) (h0 : Nat) (q : Nat → Nat) (S : MST) (a1 : Int32) (a3 : Int32) (sz : Nat) (Post : MST → Prop) (h : wp_X12_remember_r S a1 a3 Post) : Met l yX12_remember zw_zd_X12_remember_r ({ frames := 0, cells := 0, slots := 0, locals := 0 }) (va_Pc [.ref h0, .int a1, .ref (q 42), .int a3] (fun U => U.heap.size = sz ∧ va_P D vwCl (mW cI cZ h0 q S) U.heap ∧ zE D cI cZ cP cF U ∧ va_D (fun _ => True) (mW cI cZ h0 q S))) (va_Qv (fun S' => Post S') (fun (S' : MST) t => va_P D vwCl (mW cI cZ h0 q S') t.heap ∧ va_D (va_A (mW cI cZ h0 q S) sz) (mW cI cZ h0 q S')) (va_A (mW cI cZ h0 q S) sz)) 0 0 (va_A (mW cI cZ h0 q S) sz) := by
  unfold wp_X12_remember_r at h
  refine Met.ofW (cc := cX12_remember) (maxL := 6) (ret := none) (by decide) rfl ?_
  intro p e s m args below meth c s₁ B hml hv
  obtain ⟨rfl, hsz, hP, hE, hD0⟩ := hv
  have hx := B.exec
  have hb := B.bytes
  have hr := B.returns
  have hts := atoms_spec (ws := zw_zd_X12_remember_r) B.pre
  have hown : s.vm.findClass RX12 = some m.cls := findClass_of_methodNamed B.named
  have hlocks := B.notSynchronized
  have hK := hE.k
  subst hsz
  have hD := hD0.self (sz := s.heap.size)
  generalize hAe : va_A (mW cI cZ h0 q S) s.heap.size = A at hD ⊢
  have hA : ∀ q : Nat, s.heap.size ≤ q → A q := fun q h => by rw [← hAe]; exact Or.inr h
  have hl := lv_entry ([.ref h0, .int a1, .ref (q 42), .int a3]) (n := 6) (Nat.le_of_ble_eq_true rfl)
  rw [lg_entry_eq]
  generalize (lg_sl ([.ref h0, .int a1, .ref (q 42), .int a3]) ++ List.replicate (6 - (lg_sl ([.ref h0, .int a1, .ref (q 42), .int a3])).length) Slot.unset).toArray = ls at hl ⊢
  have hl : lv_has ls 6 [(0, .ref h0), (1, .int a1), (2, .ref (q 42)), (3, .int a3)] := hl
  have key : ∀ (H : Heap) (locs : List Loc), va_P D vwCl (mW cI cZ h0 q S) H → va_S A s.heap H locs → W p l e (headSpec zw_zd_X12_remember_r ({ frames := 0, cells := 0, slots := 0, locals := 0 })).room s m ([.ref h0, .int a1, .ref (q 42), .int a3] : List Value).toArray below meth c H locs 0 0 (MQ below (va_Qv (fun S' => Post S') (fun (S' : MST) t => va_P D vwCl (mW cI cZ h0 q S') t.heap ∧ va_D A (mW cI cZ h0 q S')) A) ([.ref h0, .int a1, .ref (q 42), .int a3] : List Value).toArray s 0 0 A) (F0 m 0 ls []) := by
    intro H locs hP hS
    refine lv_iconst (v := 0) hx hb dX12_remember_0 (by decide) ?_
    refine lv_istore (lv' := [(4, .int 0), (0, .ref h0), (1, .int a1), (2, .ref (q 42)), (3, .int a3)]) hx hb dX12_remember_1 hl (by decide) rfl (fun ls hl => ?_)
    have EX_3_142 : ∀ (S_142 : MST) (x142_1 : Int32) (H : Heap) (locs : List Loc) (ls : Array Slot), (vp_in x142_1 8 ∧ (vp_in x142_1 8 ∧ (∀ S2 : MST, S2 = ms S_142 16 (upd (S_142 16) (x142_1 : Int32).toNatClampNeg ((S_142 16 (x142_1 : Int32).toNatClampNeg) + 1)) → (Post S2)))) → va_P D vwCl (mW cI cZ h0 q S_142) H → va_D A (mW cI cZ h0 q S_142) → va_S A s.heap H locs → lv_has ls 6 [(0, .ref h0), (1, .int x142_1)] → W p l e (headSpec zw_zd_X12_remember_r ({ frames := 0, cells := 0, slots := 0, locals := 0 })).room s m ([.ref h0, .int a1, .ref (q 42), .int a3] : List Value).toArray below meth c H locs 0 0 (MQ below (va_Qv (fun S' => Post S') (fun (S' : MST) t => va_P D vwCl (mW cI cZ h0 q S') t.heap ∧ va_D A (mW cI cZ h0 q S')) A) ([.ref h0, .int a1, .ref (q 42), .int a3] : List Value).toArray s 0 0 A) (F0 m 142 ls []) := by
      intro S_142 x142_1 H locs ls h hP hD hS hl
      refine lv_aload_n hx hb dX12_remember_142 rfl (lv_at hl 0 rfl) ?_
      refine va_get (D := D) (ci := 12) (v := .ref (q 16)) (C := RX12) (T := TX12) (N := 52) hx hb hts (fun _ h => List.mem_cons_of_mem _ (List.mem_append_right _ h)) hown hK hP 0 rfl rfl 16 (by decide) (hts (.fieldLink RX12 53 "TemplateForgeModel" "counted" "[I") (List.mem_of_getElem? (i := 1) rfl)) (fun _ h9 => h9) rfl dX12_remember_143 ?_
      refine lv_iload_n hx hb dX12_remember_146 rfl (lv_at hl 1 rfl) ?_
      refine lv_dup2_11 hx hb dX12_remember_147 rfl rfl ?_
      have hin_1 := h.1
      have h := h.2
      refine va_iald hx hb hK hP 15 0 rfl rfl hin_1 dX12_remember_148 ?_
      refine lv_iconst (v := 1) hx hb dX12_remember_149 (by decide) ?_
      refine lv_iadd hx hb dX12_remember_150 ?_
      have hin_2 := h.1
      have h := h.2
      refine va_iast hx hb hK hP hD hS 15 0 rfl rfl hin_2 dX12_remember_151 (fun H locs hP hD hS => ?_)
      obtain ⟨S2, eS2⟩ : ∃ z, z = ms S_142 16 (upd (S_142 16) (x142_1 : Int32).toNatClampNeg ((S_142 16 (x142_1 : Int32).toNatClampNeg) + 1)) := ⟨_, rfl⟩
      have hP : va_P D vwCl (mW cI cZ h0 q S2) H := by rw [eS2]; exact hP
      have hD : va_D A (mW cI cZ h0 q S2) := by rw [eS2]; exact hD
      have h := h S2 eS2
      exact W.vret hx hb hr (fun t ht hW => ⟨⟨S2, rfl, h, by rw [ht]; exact hP, hD⟩, hS.F ht⟩) hS.2.2 dX12_remember_152
    have LP_3 : ∀ (n_3 : Nat), ∀ (S_3 : MST) (x3_1 : Int32) (x3_3 : Int32) (x3_4 : Int32) (H : Heap) (locs : List Loc) (ls : Array Slot), wl_X12_remember_r_3 (fun S_142 x142_1 => vp_in x142_1 8 ∧ (vp_in x142_1 8 ∧ (∀ S2 : MST, S2 = ms S_142 16 (upd (S_142 16) (x142_1 : Int32).toNatClampNeg ((S_142 16 (x142_1 : Int32).toNatClampNeg) + 1)) → (Post S2)))) Post n_3 S_3 x3_1 x3_3 x3_4 → va_P D vwCl (mW cI cZ h0 q S_3) H → va_D A (mW cI cZ h0 q S_3) → va_S A s.heap H locs → lv_has ls 6 [(0, .ref h0), (1, .int x3_1), (2, .ref (q 42)), (3, .int x3_3), (4, .int x3_4)] → W p l e (headSpec zw_zd_X12_remember_r ({ frames := 0, cells := 0, slots := 0, locals := 0 })).room s m ([.ref h0, .int a1, .ref (q 42), .int a3] : List Value).toArray below meth c H locs 0 0 (MQ below (va_Qv (fun S' => Post S') (fun (S' : MST) t => va_P D vwCl (mW cI cZ h0 q S') t.heap ∧ va_D A (mW cI cZ h0 q S')) A) ([.ref h0, .int a1, .ref (q 42), .int a3] : List Value).toArray s 0 0 A) (F0 m 3 ls []) := by
      intro n_3
      induction n_3 with
      | zero =>
        intro S_3 x3_1 x3_3 x3_4 H locs ls h hP hD hS hl
        exact False.elim h
      | succ n_3 ih_3 =>
        intro S_3 x3_1 x3_3 x3_4 H locs ls h hP hD hS hl
        unfold wl_X12_remember_r_3 at h
        refine lv_iload hx hb dX12_remember_3 (lv_at hl 4 rfl) ?_
        refine lv_bipush (v := 11) hx hb dX12_remember_5 (by decide) ?_
        refine lv_icmp_ge (tgt := 142) hx hb dX12_remember_7 (by decide) (fun c_3 => ?_) (fun c_3 => ?_)
        · have h := h.1 c_3
          exact EX_3_142  S_3 x3_1 H locs _ h hP hD hS (lv_sub hl [0, 1] rfl)
        · have h := h.2 c_3
          refine lv_iload hx hb dX12_remember_10 (lv_at hl 4 rfl) ?_
          refine lv_iconst (v := 3) hx hb dX12_remember_12 (by decide) ?_
          refine lv_icmp_ge (tgt := 40) hx hb dX12_remember_13 (by decide) (fun c_4 => ?_) (fun c_4 => ?_)
          · have h := h.1 c_4
            refine lv_aload_n hx hb dX12_remember_40 rfl (lv_at hl 0 rfl) ?_
            refine va_get (D := D) (ci := 12) (v := .ref (q 12)) (C := RX12) (T := TX12) (N := 52) hx hb hts (fun _ h => List.mem_cons_of_mem _ (List.mem_append_right _ h)) hown hK hP 0 rfl rfl 12 (by decide) (hts (.fieldLink RX12 41 "TemplateForgeModel" "fields" "[I") (List.mem_of_getElem? (i := 2) rfl)) (fun _ h9 => h9) rfl dX12_remember_41 ?_
            refine lv_iload hx hb dX12_remember_44 (lv_at hl 4 rfl) ?_
            refine lv_iconst (v := 3) hx hb dX12_remember_46 (by decide) ?_
            refine lv_isub hx hb dX12_remember_47 ?_
            have hin_5 := h.1
            have h := h.2
            refine va_iald hx hb hK hP 11 0 rfl rfl hin_5 dX12_remember_48 ?_
            refine lv_istore (lv' := [(5, .int (S_3 12 (x3_4 - 3 : Int32).toNatClampNeg)), (0, .ref h0), (1, .int x3_1), (2, .ref (q 42)), (3, .int x3_3), (4, .int x3_4)]) hx hb dX12_remember_49 hl (by decide) rfl (fun ls hl => ?_)
            refine lv_aload_n hx hb dX12_remember_51 rfl (lv_at hl 1 rfl) ?_
            refine va_get (D := D) (ci := 12) (v := .ref (q 16)) (C := RX12) (T := TX12) (N := 52) hx hb hts (fun _ h => List.mem_cons_of_mem _ (List.mem_append_right _ h)) hown hK hP 0 rfl rfl 16 (by decide) (hts (.fieldLink RX12 53 "TemplateForgeModel" "counted" "[I") (List.mem_of_getElem? (i := 1) rfl)) (fun _ h9 => h9) rfl dX12_remember_52 ?_
            refine lv_iload_n hx hb dX12_remember_55 rfl (lv_at hl 2 rfl) ?_
            have hin_6 := h.1
            have h := h.2
            refine va_iald hx hb hK hP 15 0 rfl rfl hin_6 dX12_remember_56 ?_
            refine lv_if_ne (tgt := 87) hx hb dX12_remember_57 (by decide) (fun c_7 => ?_) (fun c_7 => ?_)
            · have h := h.1 c_7
              refine lv_aload_n hx hb dX12_remember_87 rfl (lv_at hl 1 rfl) ?_
              refine va_get (D := D) (ci := 12) (v := .ref (q 21)) (C := RX12) (T := TX12) (N := 52) hx hb hts (fun _ h => List.mem_cons_of_mem _ (List.mem_append_right _ h)) hown hK hP 0 rfl rfl 21 (by decide) (hts (.fieldLink RX12 68 "TemplateForgeModel" "isLike" "[Z") (List.mem_of_getElem? (i := 3) rfl)) (fun _ h9 => h9) rfl dX12_remember_88 ?_
              refine lv_bipush (v := 11) hx hb dX12_remember_91 (by decide) ?_
              refine lv_iload_n hx hb dX12_remember_93 rfl (lv_at hl 2 rfl) ?_
              refine lv_imul hx hb dX12_remember_94 ?_
              refine lv_iload hx hb dX12_remember_95 (lv_at hl 5 rfl) ?_
              refine lv_iadd hx hb dX12_remember_97 ?_
              refine lv_aload_n hx hb dX12_remember_98 rfl (lv_at hl 1 rfl) ?_
              refine va_get (D := D) (ci := 12) (v := .ref (q 21)) (C := RX12) (T := TX12) (N := 52) hx hb hts (fun _ h => List.mem_cons_of_mem _ (List.mem_append_right _ h)) hown hK hP 0 rfl rfl 21 (by decide) (hts (.fieldLink RX12 68 "TemplateForgeModel" "isLike" "[Z") (List.mem_of_getElem? (i := 3) rfl)) (fun _ h9 => h9) rfl dX12_remember_99 ?_
              refine lv_bipush (v := 11) hx hb dX12_remember_102 (by decide) ?_
              refine lv_iload_n hx hb dX12_remember_104 rfl (lv_at hl 2 rfl) ?_
              refine lv_imul hx hb dX12_remember_105 ?_
              refine lv_iload hx hb dX12_remember_106 (lv_at hl 5 rfl) ?_
              refine lv_iadd hx hb dX12_remember_108 ?_
              have hin_8 := h.1
              have h := h.2
              refine va_zald hx hb hK hP 20 1 rfl rfl hin_8 dX12_remember_109 ?_
              refine lv_if_eq (tgt := 134) hx hb dX12_remember_110 (by decide) (fun c_9 => ?_) (fun c_9 => ?_)
              · have h := h.1 c_9
                refine lv_iconst (v := 0) hx hb dX12_remember_134 (by decide) ?_
                have hin_10 := h.1
                have h := h.2
                refine va_zast hx hb hK hP hD hS 20 1 rfl rfl hin_10 dX12_remember_135 (fun H locs hP hD hS => ?_)
                obtain ⟨S10, eS10⟩ : ∃ z, z = ms S_3 21 (upd (S_3 21) ((11 * x3_1) + x3_4 : Int32).toNatClampNeg (vp_nar .boolean 0)) := ⟨_, rfl⟩
                have hP : va_P D vwCl (mW cI cZ h0 q S10) H := by rw [eS10]; exact hP
                have hD : va_D A (mW cI cZ h0 q S10) := by rw [eS10]; exact hD
                have h := h S10 eS10
                refine lv_iinc (v := x3_4 + 1) (lv' := [(4, .int (x3_4 + 1)), (5, .int (S_3 12 (x3_4 - 3 : Int32).toNatClampNeg)), (0, .ref h0), (1, .int x3_1), (2, .ref (q 42)), (3, .int x3_3)]) hx hb dX12_remember_136 hl (k := 5) rfl rfl (by decide) rfl (fun ls hl => ?_)
                refine lv_goto (tgt := 3) hx hb dX12_remember_139 (by decide) ?_
                exact ih_3  S10 x3_1 x3_3 (x3_4 + 1) H locs _ h hP hD hS (lv_sub hl [2, 3, 4, 5, 0] rfl)
              · have h := h.2 c_9
                refine lv_aload_n hx hb dX12_remember_113 rfl (lv_at hl 1 rfl) ?_
                refine va_get (D := D) (ci := 12) (v := .ref (q 20)) (C := RX12) (T := TX12) (N := 52) hx hb hts (fun _ h => List.mem_cons_of_mem _ (List.mem_append_right _ h)) hown hK hP 0 rfl rfl 20 (by decide) (hts (.fieldLink RX12 65 "TemplateForgeModel" "value" "[I") (List.mem_of_getElem? (i := 4) rfl)) (fun _ h9 => h9) rfl dX12_remember_114 ?_
                refine lv_bipush (v := 11) hx hb dX12_remember_117 (by decide) ?_
                refine lv_iload_n hx hb dX12_remember_119 rfl (lv_at hl 2 rfl) ?_
                refine lv_imul hx hb dX12_remember_120 ?_
                refine lv_iload hx hb dX12_remember_121 (lv_at hl 5 rfl) ?_
                refine lv_iadd hx hb dX12_remember_123 ?_
                have hin_11 := h.1
                have h := h.2
                refine va_iald hx hb hK hP 19 0 rfl rfl hin_11 dX12_remember_124 ?_
                refine lv_iload hx hb dX12_remember_125 (lv_at hl 0 rfl) ?_
                refine lv_icmp_ne (tgt := 134) hx hb dX12_remember_127 (by decide) (fun c_12 => ?_) (fun c_12 => ?_)
                · have h := h.1 c_12
                  refine lv_iconst (v := 0) hx hb dX12_remember_134 (by decide) ?_
                  have hin_13 := h.1
                  have h := h.2
                  refine va_zast hx hb hK hP hD hS 20 1 rfl rfl hin_13 dX12_remember_135 (fun H locs hP hD hS => ?_)
                  obtain ⟨S13, eS13⟩ : ∃ z, z = ms S_3 21 (upd (S_3 21) ((11 * x3_1) + x3_4 : Int32).toNatClampNeg (vp_nar .boolean 0)) := ⟨_, rfl⟩
                  have hP : va_P D vwCl (mW cI cZ h0 q S13) H := by rw [eS13]; exact hP
                  have hD : va_D A (mW cI cZ h0 q S13) := by rw [eS13]; exact hD
                  have h := h S13 eS13
                  refine lv_iinc (v := x3_4 + 1) (lv' := [(4, .int (x3_4 + 1)), (5, .int (S_3 12 (x3_4 - 3 : Int32).toNatClampNeg)), (0, .ref h0), (1, .int x3_1), (2, .ref (q 42)), (3, .int x3_3)]) hx hb dX12_remember_136 hl (k := 5) rfl rfl (by decide) rfl (fun ls hl => ?_)
                  refine lv_goto (tgt := 3) hx hb dX12_remember_139 (by decide) ?_
                  exact ih_3  S13 x3_1 x3_3 (x3_4 + 1) H locs _ h hP hD hS (lv_sub hl [2, 3, 4, 5, 0] rfl)
                · have h := h.2 c_12
                  refine lv_iconst (v := 1) hx hb dX12_remember_130 (by decide) ?_
                  refine lv_goto (tgt := 135) hx hb dX12_remember_131 (by decide) ?_
                  have hin_14 := h.1
                  have h := h.2
                  refine va_zast hx hb hK hP hD hS 20 1 rfl rfl hin_14 dX12_remember_135 (fun H locs hP hD hS => ?_)
                  obtain ⟨S14, eS14⟩ : ∃ z, z = ms S_3 21 (upd (S_3 21) ((11 * x3_1) + x3_4 : Int32).toNatClampNeg (vp_nar .boolean 1)) := ⟨_, rfl⟩
                  have hP : va_P D vwCl (mW cI cZ h0 q S14) H := by rw [eS14]; exact hP
                  have hD : va_D A (mW cI cZ h0 q S14) := by rw [eS14]; exact hD
                  have h := h S14 eS14
                  refine lv_iinc (v := x3_4 + 1) (lv' := [(4, .int (x3_4 + 1)), (5, .int (S_3 12 (x3_4 - 3 : Int32).toNatClampNeg)), (0, .ref h0), (1, .int x3_1), (2, .ref (q 42)), (3, .int x3_3)]) hx hb dX12_remember_136 hl (k := 5) rfl rfl (by decide) rfl (fun ls hl => ?_)
                  refine lv_goto (tgt := 3) hx hb dX12_remember_139 (by decide) ?_
                  exact ih_3  S14 x3_1 x3_3 (x3_4 + 1) H locs _ h hP hD hS (lv_sub hl [2, 3, 4, 5, 0] rfl)
            · have h := h.2 c_7
              refine lv_aload_n hx hb dX12_remember_60 rfl (lv_at hl 1 rfl) ?_
              refine va_get (D := D) (ci := 12) (v := .ref (q 20)) (C := RX12) (T := TX12) (N := 52) hx hb hts (fun _ h => List.mem_cons_of_mem _ (List.mem_append_right _ h)) hown hK hP 0 rfl rfl 20 (by decide) (hts (.fieldLink RX12 65 "TemplateForgeModel" "value" "[I") (List.mem_of_getElem? (i := 4) rfl)) (fun _ h9 => h9) rfl dX12_remember_61 ?_
              refine lv_bipush (v := 11) hx hb dX12_remember_64 (by decide) ?_
              refine lv_iload_n hx hb dX12_remember_66 rfl (lv_at hl 2 rfl) ?_
              refine lv_imul hx hb dX12_remember_67 ?_
              refine lv_iload hx hb dX12_remember_68 (lv_at hl 5 rfl) ?_
              refine lv_iadd hx hb dX12_remember_70 ?_
              refine lv_iload hx hb dX12_remember_71 (lv_at hl 0 rfl) ?_
              have hin_15 := h.1
              have h := h.2
              refine va_iast hx hb hK hP hD hS 19 0 rfl rfl hin_15 dX12_remember_73 (fun H locs hP hD hS => ?_)
              obtain ⟨S15, eS15⟩ : ∃ z, z = ms S_3 20 (upd (S_3 20) ((11 * x3_1) + x3_4 : Int32).toNatClampNeg (S_3 12 (x3_4 - 3 : Int32).toNatClampNeg)) := ⟨_, rfl⟩
              have hP : va_P D vwCl (mW cI cZ h0 q S15) H := by rw [eS15]; exact hP
              have hD : va_D A (mW cI cZ h0 q S15) := by rw [eS15]; exact hD
              have h := h S15 eS15
              refine lv_aload_n hx hb dX12_remember_74 rfl (lv_at hl 1 rfl) ?_
              refine va_get (D := D) (ci := 12) (v := .ref (q 21)) (C := RX12) (T := TX12) (N := 52) hx hb hts (fun _ h => List.mem_cons_of_mem _ (List.mem_append_right _ h)) hown hK hP 0 rfl rfl 21 (by decide) (hts (.fieldLink RX12 68 "TemplateForgeModel" "isLike" "[Z") (List.mem_of_getElem? (i := 3) rfl)) (fun _ h9 => h9) rfl dX12_remember_75 ?_
              refine lv_bipush (v := 11) hx hb dX12_remember_78 (by decide) ?_
              refine lv_iload_n hx hb dX12_remember_80 rfl (lv_at hl 2 rfl) ?_
              refine lv_imul hx hb dX12_remember_81 ?_
              refine lv_iload hx hb dX12_remember_82 (lv_at hl 5 rfl) ?_
              refine lv_iadd hx hb dX12_remember_84 ?_
              refine lv_iconst (v := 1) hx hb dX12_remember_85 (by decide) ?_
              have hin_16 := h.1
              have h := h.2
              refine va_zast hx hb hK hP hD hS 20 1 rfl rfl hin_16 dX12_remember_86 (fun H locs hP hD hS => ?_)
              obtain ⟨S16, eS16⟩ : ∃ z, z = ms S15 21 (upd (S15 21) ((11 * x3_1) + x3_4 : Int32).toNatClampNeg (vp_nar .boolean 1)) := ⟨_, rfl⟩
              have hP : va_P D vwCl (mW cI cZ h0 q S16) H := by rw [eS16]; exact hP
              have hD : va_D A (mW cI cZ h0 q S16) := by rw [eS16]; exact hD
              have h := h S16 eS16
              refine lv_aload_n hx hb dX12_remember_87 rfl (lv_at hl 1 rfl) ?_
              refine va_get (D := D) (ci := 12) (v := .ref (q 21)) (C := RX12) (T := TX12) (N := 52) hx hb hts (fun _ h => List.mem_cons_of_mem _ (List.mem_append_right _ h)) hown hK hP 0 rfl rfl 21 (by decide) (hts (.fieldLink RX12 68 "TemplateForgeModel" "isLike" "[Z") (List.mem_of_getElem? (i := 3) rfl)) (fun _ h9 => h9) rfl dX12_remember_88 ?_
              refine lv_bipush (v := 11) hx hb dX12_remember_91 (by decide) ?_
              refine lv_iload_n hx hb dX12_remember_93 rfl (lv_at hl 2 rfl) ?_
              refine lv_imul hx hb dX12_remember_94 ?_
              refine lv_iload hx hb dX12_remember_95 (lv_at hl 5 rfl) ?_
              refine lv_iadd hx hb dX12_remember_97 ?_
              refine lv_aload_n hx hb dX12_remember_98 rfl (lv_at hl 1 rfl) ?_
              refine va_get (D := D) (ci := 12) (v := .ref (q 21)) (C := RX12) (T := TX12) (N := 52) hx hb hts (fun _ h => List.mem_cons_of_mem _ (List.mem_append_right _ h)) hown hK hP 0 rfl rfl 21 (by decide) (hts (.fieldLink RX12 68 "TemplateForgeModel" "isLike" "[Z") (List.mem_of_getElem? (i := 3) rfl)) (fun _ h9 => h9) rfl dX12_remember_99 ?_
              refine lv_bipush (v := 11) hx hb dX12_remember_102 (by decide) ?_
              refine lv_iload_n hx hb dX12_remember_104 rfl (lv_at hl 2 rfl) ?_
              refine lv_imul hx hb dX12_remember_105 ?_
              refine lv_iload hx hb dX12_remember_106 (lv_at hl 5 rfl) ?_
              refine lv_iadd hx hb dX12_remember_108 ?_
              have hin_17 := h.1
              have h := h.2
              refine va_zald hx hb hK hP 20 1 rfl rfl hin_17 dX12_remember_109 ?_
              refine lv_if_eq (tgt := 134) hx hb dX12_remember_110 (by decide) (fun c_18 => ?_) (fun c_18 => ?_)
              · have h := h.1 c_18
                refine lv_iconst (v := 0) hx hb dX12_remember_134 (by decide) ?_
                have hin_19 := h.1
                have h := h.2
                refine va_zast hx hb hK hP hD hS 20 1 rfl rfl hin_19 dX12_remember_135 (fun H locs hP hD hS => ?_)
                obtain ⟨S19, eS19⟩ : ∃ z, z = ms S16 21 (upd (S16 21) ((11 * x3_1) + x3_4 : Int32).toNatClampNeg (vp_nar .boolean 0)) := ⟨_, rfl⟩
                have hP : va_P D vwCl (mW cI cZ h0 q S19) H := by rw [eS19]; exact hP
                have hD : va_D A (mW cI cZ h0 q S19) := by rw [eS19]; exact hD
                have h := h S19 eS19
                refine lv_iinc (v := x3_4 + 1) (lv' := [(4, .int (x3_4 + 1)), (5, .int (S_3 12 (x3_4 - 3 : Int32).toNatClampNeg)), (0, .ref h0), (1, .int x3_1), (2, .ref (q 42)), (3, .int x3_3)]) hx hb dX12_remember_136 hl (k := 5) rfl rfl (by decide) rfl (fun ls hl => ?_)
                refine lv_goto (tgt := 3) hx hb dX12_remember_139 (by decide) ?_
                exact ih_3  S19 x3_1 x3_3 (x3_4 + 1) H locs _ h hP hD hS (lv_sub hl [2, 3, 4, 5, 0] rfl)
              · have h := h.2 c_18
                refine lv_aload_n hx hb dX12_remember_113 rfl (lv_at hl 1 rfl) ?_
                refine va_get (D := D) (ci := 12) (v := .ref (q 20)) (C := RX12) (T := TX12) (N := 52) hx hb hts (fun _ h => List.mem_cons_of_mem _ (List.mem_append_right _ h)) hown hK hP 0 rfl rfl 20 (by decide) (hts (.fieldLink RX12 65 "TemplateForgeModel" "value" "[I") (List.mem_of_getElem? (i := 4) rfl)) (fun _ h9 => h9) rfl dX12_remember_114 ?_
                refine lv_bipush (v := 11) hx hb dX12_remember_117 (by decide) ?_
                refine lv_iload_n hx hb dX12_remember_119 rfl (lv_at hl 2 rfl) ?_
                refine lv_imul hx hb dX12_remember_120 ?_
                refine lv_iload hx hb dX12_remember_121 (lv_at hl 5 rfl) ?_
                refine lv_iadd hx hb dX12_remember_123 ?_
                have hin_20 := h.1
                have h := h.2
                refine va_iald hx hb hK hP 19 0 rfl rfl hin_20 dX12_remember_124 ?_
                refine lv_iload hx hb dX12_remember_125 (lv_at hl 0 rfl) ?_
                refine lv_icmp_ne (tgt := 134) hx hb dX12_remember_127 (by decide) (fun c_21 => ?_) (fun c_21 => ?_)
                · have h := h.1 c_21
                  refine lv_iconst (v := 0) hx hb dX12_remember_134 (by decide) ?_
                  have hin_22 := h.1
                  have h := h.2
                  refine va_zast hx hb hK hP hD hS 20 1 rfl rfl hin_22 dX12_remember_135 (fun H locs hP hD hS => ?_)
                  obtain ⟨S22, eS22⟩ : ∃ z, z = ms S16 21 (upd (S16 21) ((11 * x3_1) + x3_4 : Int32).toNatClampNeg (vp_nar .boolean 0)) := ⟨_, rfl⟩
                  have hP : va_P D vwCl (mW cI cZ h0 q S22) H := by rw [eS22]; exact hP
                  have hD : va_D A (mW cI cZ h0 q S22) := by rw [eS22]; exact hD
                  have h := h S22 eS22
                  refine lv_iinc (v := x3_4 + 1) (lv' := [(4, .int (x3_4 + 1)), (5, .int (S_3 12 (x3_4 - 3 : Int32).toNatClampNeg)), (0, .ref h0), (1, .int x3_1), (2, .ref (q 42)), (3, .int x3_3)]) hx hb dX12_remember_136 hl (k := 5) rfl rfl (by decide) rfl (fun ls hl => ?_)
                  refine lv_goto (tgt := 3) hx hb dX12_remember_139 (by decide) ?_
                  exact ih_3  S22 x3_1 x3_3 (x3_4 + 1) H locs _ h hP hD hS (lv_sub hl [2, 3, 4, 5, 0] rfl)
                · have h := h.2 c_21
                  refine lv_iconst (v := 1) hx hb dX12_remember_130 (by decide) ?_
                  refine lv_goto (tgt := 135) hx hb dX12_remember_131 (by decide) ?_
                  have hin_23 := h.1
                  have h := h.2
                  refine va_zast hx hb hK hP hD hS 20 1 rfl rfl hin_23 dX12_remember_135 (fun H locs hP hD hS => ?_)
                  obtain ⟨S23, eS23⟩ : ∃ z, z = ms S16 21 (upd (S16 21) ((11 * x3_1) + x3_4 : Int32).toNatClampNeg (vp_nar .boolean 1)) := ⟨_, rfl⟩
                  have hP : va_P D vwCl (mW cI cZ h0 q S23) H := by rw [eS23]; exact hP
                  have hD : va_D A (mW cI cZ h0 q S23) := by rw [eS23]; exact hD
                  have h := h S23 eS23
                  refine lv_iinc (v := x3_4 + 1) (lv' := [(4, .int (x3_4 + 1)), (5, .int (S_3 12 (x3_4 - 3 : Int32).toNatClampNeg)), (0, .ref h0), (1, .int x3_1), (2, .ref (q 42)), (3, .int x3_3)]) hx hb dX12_remember_136 hl (k := 5) rfl rfl (by decide) rfl (fun ls hl => ?_)
                  refine lv_goto (tgt := 3) hx hb dX12_remember_139 (by decide) ?_
                  exact ih_3  S23 x3_1 x3_3 (x3_4 + 1) H locs _ h hP hD hS (lv_sub hl [2, 3, 4, 5, 0] rfl)
          · have h := h.2 c_4
            refine lv_iload hx hb dX12_remember_16 (lv_at hl 4 rfl) ?_
            refine lv_aload_n hx hb dX12_remember_18 rfl (lv_at hl 0 rfl) ?_
            refine va_get (D := D) (ci := 12) (v := .ref (q 1)) (C := RX12) (T := TX12) (N := 52) hx hb hts (fun _ h => List.mem_cons_of_mem _ (List.mem_append_right _ h)) hown hK hP 0 rfl rfl 1 (by decide) (hts (.fieldLink RX12 7 "TemplateForgeModel" "args" "[I") (List.mem_of_getElem? (i := 5) rfl)) (fun _ h9 => h9) rfl dX12_remember_19 ?_
            refine lv_iload_n hx hb dX12_remember_22 rfl (lv_at hl 1 rfl) ?_
            have hin_24 := h.1
            have h := h.2
            refine va_iald hx hb hK hP 1 0 rfl rfl hin_24 dX12_remember_23 ?_
            refine lv_icmp_ge (tgt := 36) hx hb dX12_remember_24 (by decide) (fun c_25 => ?_) (fun c_25 => ?_)
            · have h := h.1 c_25
              refine lv_iconst (v := 0) hx hb dX12_remember_36 (by decide) ?_
              refine lv_goto (tgt := 49) hx hb dX12_remember_37 (by decide) ?_
              refine lv_istore (lv' := [(5, .int 0), (0, .ref h0), (1, .int x3_1), (2, .ref (q 42)), (3, .int x3_3), (4, .int x3_4)]) hx hb dX12_remember_49 hl (by decide) rfl (fun ls hl => ?_)
              refine lv_aload_n hx hb dX12_remember_51 rfl (lv_at hl 1 rfl) ?_
              refine va_get (D := D) (ci := 12) (v := .ref (q 16)) (C := RX12) (T := TX12) (N := 52) hx hb hts (fun _ h => List.mem_cons_of_mem _ (List.mem_append_right _ h)) hown hK hP 0 rfl rfl 16 (by decide) (hts (.fieldLink RX12 53 "TemplateForgeModel" "counted" "[I") (List.mem_of_getElem? (i := 1) rfl)) (fun _ h9 => h9) rfl dX12_remember_52 ?_
              refine lv_iload_n hx hb dX12_remember_55 rfl (lv_at hl 2 rfl) ?_
              have hin_26 := h.1
              have h := h.2
              refine va_iald hx hb hK hP 15 0 rfl rfl hin_26 dX12_remember_56 ?_
              refine lv_if_ne (tgt := 87) hx hb dX12_remember_57 (by decide) (fun c_27 => ?_) (fun c_27 => ?_)
              · have h := h.1 c_27
                refine lv_aload_n hx hb dX12_remember_87 rfl (lv_at hl 1 rfl) ?_
                refine va_get (D := D) (ci := 12) (v := .ref (q 21)) (C := RX12) (T := TX12) (N := 52) hx hb hts (fun _ h => List.mem_cons_of_mem _ (List.mem_append_right _ h)) hown hK hP 0 rfl rfl 21 (by decide) (hts (.fieldLink RX12 68 "TemplateForgeModel" "isLike" "[Z") (List.mem_of_getElem? (i := 3) rfl)) (fun _ h9 => h9) rfl dX12_remember_88 ?_
                refine lv_bipush (v := 11) hx hb dX12_remember_91 (by decide) ?_
                refine lv_iload_n hx hb dX12_remember_93 rfl (lv_at hl 2 rfl) ?_
                refine lv_imul hx hb dX12_remember_94 ?_
                refine lv_iload hx hb dX12_remember_95 (lv_at hl 5 rfl) ?_
                refine lv_iadd hx hb dX12_remember_97 ?_
                refine lv_aload_n hx hb dX12_remember_98 rfl (lv_at hl 1 rfl) ?_
                refine va_get (D := D) (ci := 12) (v := .ref (q 21)) (C := RX12) (T := TX12) (N := 52) hx hb hts (fun _ h => List.mem_cons_of_mem _ (List.mem_append_right _ h)) hown hK hP 0 rfl rfl 21 (by decide) (hts (.fieldLink RX12 68 "TemplateForgeModel" "isLike" "[Z") (List.mem_of_getElem? (i := 3) rfl)) (fun _ h9 => h9) rfl dX12_remember_99 ?_
                refine lv_bipush (v := 11) hx hb dX12_remember_102 (by decide) ?_
                refine lv_iload_n hx hb dX12_remember_104 rfl (lv_at hl 2 rfl) ?_
                refine lv_imul hx hb dX12_remember_105 ?_
                refine lv_iload hx hb dX12_remember_106 (lv_at hl 5 rfl) ?_
                refine lv_iadd hx hb dX12_remember_108 ?_
                have hin_28 := h.1
                have h := h.2
                refine va_zald hx hb hK hP 20 1 rfl rfl hin_28 dX12_remember_109 ?_
                refine lv_if_eq (tgt := 134) hx hb dX12_remember_110 (by decide) (fun c_29 => ?_) (fun c_29 => ?_)
                · have h := h.1 c_29
                  refine lv_iconst (v := 0) hx hb dX12_remember_134 (by decide) ?_
                  have hin_30 := h.1
                  have h := h.2
                  refine va_zast hx hb hK hP hD hS 20 1 rfl rfl hin_30 dX12_remember_135 (fun H locs hP hD hS => ?_)
                  obtain ⟨S30, eS30⟩ : ∃ z, z = ms S_3 21 (upd (S_3 21) ((11 * x3_1) + x3_4 : Int32).toNatClampNeg (vp_nar .boolean 0)) := ⟨_, rfl⟩
                  have hP : va_P D vwCl (mW cI cZ h0 q S30) H := by rw [eS30]; exact hP
                  have hD : va_D A (mW cI cZ h0 q S30) := by rw [eS30]; exact hD
                  have h := h S30 eS30
                  refine lv_iinc (v := x3_4 + 1) (lv' := [(4, .int (x3_4 + 1)), (5, .int 0), (0, .ref h0), (1, .int x3_1), (2, .ref (q 42)), (3, .int x3_3)]) hx hb dX12_remember_136 hl (k := 5) rfl rfl (by decide) rfl (fun ls hl => ?_)
                  refine lv_goto (tgt := 3) hx hb dX12_remember_139 (by decide) ?_
                  exact ih_3  S30 x3_1 x3_3 (x3_4 + 1) H locs _ h hP hD hS (lv_sub hl [2, 3, 4, 5, 0] rfl)
                · have h := h.2 c_29
                  refine lv_aload_n hx hb dX12_remember_113 rfl (lv_at hl 1 rfl) ?_
                  refine va_get (D := D) (ci := 12) (v := .ref (q 20)) (C := RX12) (T := TX12) (N := 52) hx hb hts (fun _ h => List.mem_cons_of_mem _ (List.mem_append_right _ h)) hown hK hP 0 rfl rfl 20 (by decide) (hts (.fieldLink RX12 65 "TemplateForgeModel" "value" "[I") (List.mem_of_getElem? (i := 4) rfl)) (fun _ h9 => h9) rfl dX12_remember_114 ?_
                  refine lv_bipush (v := 11) hx hb dX12_remember_117 (by decide) ?_
                  refine lv_iload_n hx hb dX12_remember_119 rfl (lv_at hl 2 rfl) ?_
                  refine lv_imul hx hb dX12_remember_120 ?_
                  refine lv_iload hx hb dX12_remember_121 (lv_at hl 5 rfl) ?_
                  refine lv_iadd hx hb dX12_remember_123 ?_
                  have hin_31 := h.1
                  have h := h.2
                  refine va_iald hx hb hK hP 19 0 rfl rfl hin_31 dX12_remember_124 ?_
                  refine lv_iload hx hb dX12_remember_125 (lv_at hl 0 rfl) ?_
                  refine lv_icmp_ne (tgt := 134) hx hb dX12_remember_127 (by decide) (fun c_32 => ?_) (fun c_32 => ?_)
                  · have h := h.1 c_32
                    refine lv_iconst (v := 0) hx hb dX12_remember_134 (by decide) ?_
                    have hin_33 := h.1
                    have h := h.2
                    refine va_zast hx hb hK hP hD hS 20 1 rfl rfl hin_33 dX12_remember_135 (fun H locs hP hD hS => ?_)
                    obtain ⟨S33, eS33⟩ : ∃ z, z = ms S_3 21 (upd (S_3 21) ((11 * x3_1) + x3_4 : Int32).toNatClampNeg (vp_nar .boolean 0)) := ⟨_, rfl⟩
                    have hP : va_P D vwCl (mW cI cZ h0 q S33) H := by rw [eS33]; exact hP
                    have hD : va_D A (mW cI cZ h0 q S33) := by rw [eS33]; exact hD
                    have h := h S33 eS33
                    refine lv_iinc (v := x3_4 + 1) (lv' := [(4, .int (x3_4 + 1)), (5, .int 0), (0, .ref h0), (1, .int x3_1), (2, .ref (q 42)), (3, .int x3_3)]) hx hb dX12_remember_136 hl (k := 5) rfl rfl (by decide) rfl (fun ls hl => ?_)
                    refine lv_goto (tgt := 3) hx hb dX12_remember_139 (by decide) ?_
                    exact ih_3  S33 x3_1 x3_3 (x3_4 + 1) H locs _ h hP hD hS (lv_sub hl [2, 3, 4, 5, 0] rfl)
                  · have h := h.2 c_32
                    refine lv_iconst (v := 1) hx hb dX12_remember_130 (by decide) ?_
                    refine lv_goto (tgt := 135) hx hb dX12_remember_131 (by decide) ?_
                    have hin_34 := h.1
                    have h := h.2
                    refine va_zast hx hb hK hP hD hS 20 1 rfl rfl hin_34 dX12_remember_135 (fun H locs hP hD hS => ?_)
                    obtain ⟨S34, eS34⟩ : ∃ z, z = ms S_3 21 (upd (S_3 21) ((11 * x3_1) + x3_4 : Int32).toNatClampNeg (vp_nar .boolean 1)) := ⟨_, rfl⟩
                    have hP : va_P D vwCl (mW cI cZ h0 q S34) H := by rw [eS34]; exact hP
                    have hD : va_D A (mW cI cZ h0 q S34) := by rw [eS34]; exact hD
                    have h := h S34 eS34
                    refine lv_iinc (v := x3_4 + 1) (lv' := [(4, .int (x3_4 + 1)), (5, .int 0), (0, .ref h0), (1, .int x3_1), (2, .ref (q 42)), (3, .int x3_3)]) hx hb dX12_remember_136 hl (k := 5) rfl rfl (by decide) rfl (fun ls hl => ?_)
                    refine lv_goto (tgt := 3) hx hb dX12_remember_139 (by decide) ?_
                    exact ih_3  S34 x3_1 x3_3 (x3_4 + 1) H locs _ h hP hD hS (lv_sub hl [2, 3, 4, 5, 0] rfl)
              · have h := h.2 c_27
                refine lv_aload_n hx hb dX12_remember_60 rfl (lv_at hl 1 rfl) ?_
                refine va_get (D := D) (ci := 12) (v := .ref (q 20)) (C := RX12) (T := TX12) (N := 52) hx hb hts (fun _ h => List.mem_cons_of_mem _ (List.mem_append_right _ h)) hown hK hP 0 rfl rfl 20 (by decide) (hts (.fieldLink RX12 65 "TemplateForgeModel" "value" "[I") (List.mem_of_getElem? (i := 4) rfl)) (fun _ h9 => h9) rfl dX12_remember_61 ?_
                refine lv_bipush (v := 11) hx hb dX12_remember_64 (by decide) ?_
                refine lv_iload_n hx hb dX12_remember_66 rfl (lv_at hl 2 rfl) ?_
                refine lv_imul hx hb dX12_remember_67 ?_
                refine lv_iload hx hb dX12_remember_68 (lv_at hl 5 rfl) ?_
                refine lv_iadd hx hb dX12_remember_70 ?_
                refine lv_iload hx hb dX12_remember_71 (lv_at hl 0 rfl) ?_
                have hin_35 := h.1
                have h := h.2
                refine va_iast hx hb hK hP hD hS 19 0 rfl rfl hin_35 dX12_remember_73 (fun H locs hP hD hS => ?_)
                obtain ⟨S35, eS35⟩ : ∃ z, z = ms S_3 20 (upd (S_3 20) ((11 * x3_1) + x3_4 : Int32).toNatClampNeg 0) := ⟨_, rfl⟩
                have hP : va_P D vwCl (mW cI cZ h0 q S35) H := by rw [eS35]; exact hP
                have hD : va_D A (mW cI cZ h0 q S35) := by rw [eS35]; exact hD
                have h := h S35 eS35
                refine lv_aload_n hx hb dX12_remember_74 rfl (lv_at hl 1 rfl) ?_
                refine va_get (D := D) (ci := 12) (v := .ref (q 21)) (C := RX12) (T := TX12) (N := 52) hx hb hts (fun _ h => List.mem_cons_of_mem _ (List.mem_append_right _ h)) hown hK hP 0 rfl rfl 21 (by decide) (hts (.fieldLink RX12 68 "TemplateForgeModel" "isLike" "[Z") (List.mem_of_getElem? (i := 3) rfl)) (fun _ h9 => h9) rfl dX12_remember_75 ?_
                refine lv_bipush (v := 11) hx hb dX12_remember_78 (by decide) ?_
                refine lv_iload_n hx hb dX12_remember_80 rfl (lv_at hl 2 rfl) ?_
                refine lv_imul hx hb dX12_remember_81 ?_
                refine lv_iload hx hb dX12_remember_82 (lv_at hl 5 rfl) ?_
                refine lv_iadd hx hb dX12_remember_84 ?_
                refine lv_iconst (v := 1) hx hb dX12_remember_85 (by decide) ?_
                have hin_36 := h.1
                have h := h.2
                refine va_zast hx hb hK hP hD hS 20 1 rfl rfl hin_36 dX12_remember_86 (fun H locs hP hD hS => ?_)
                obtain ⟨S36, eS36⟩ : ∃ z, z = ms S35 21 (upd (S35 21) ((11 * x3_1) + x3_4 : Int32).toNatClampNeg (vp_nar .boolean 1)) := ⟨_, rfl⟩
                have hP : va_P D vwCl (mW cI cZ h0 q S36) H := by rw [eS36]; exact hP
                have hD : va_D A (mW cI cZ h0 q S36) := by rw [eS36]; exact hD
                have h := h S36 eS36
                refine lv_aload_n hx hb dX12_remember_87 rfl (lv_at hl 1 rfl) ?_
                refine va_get (D := D) (ci := 12) (v := .ref (q 21)) (C := RX12) (T := TX12) (N := 52) hx hb hts (fun _ h => List.mem_cons_of_mem _ (List.mem_append_right _ h)) hown hK hP 0 rfl rfl 21 (by decide) (hts (.fieldLink RX12 68 "TemplateForgeModel" "isLike" "[Z") (List.mem_of_getElem? (i := 3) rfl)) (fun _ h9 => h9) rfl dX12_remember_88 ?_
                refine lv_bipush (v := 11) hx hb dX12_remember_91 (by decide) ?_
                refine lv_iload_n hx hb dX12_remember_93 rfl (lv_at hl 2 rfl) ?_
                refine lv_imul hx hb dX12_remember_94 ?_
                refine lv_iload hx hb dX12_remember_95 (lv_at hl 5 rfl) ?_
                refine lv_iadd hx hb dX12_remember_97 ?_
                refine lv_aload_n hx hb dX12_remember_98 rfl (lv_at hl 1 rfl) ?_
                refine va_get (D := D) (ci := 12) (v := .ref (q 21)) (C := RX12) (T := TX12) (N := 52) hx hb hts (fun _ h => List.mem_cons_of_mem _ (List.mem_append_right _ h)) hown hK hP 0 rfl rfl 21 (by decide) (hts (.fieldLink RX12 68 "TemplateForgeModel" "isLike" "[Z") (List.mem_of_getElem? (i := 3) rfl)) (fun _ h9 => h9) rfl dX12_remember_99 ?_
                refine lv_bipush (v := 11) hx hb dX12_remember_102 (by decide) ?_
                refine lv_iload_n hx hb dX12_remember_104 rfl (lv_at hl 2 rfl) ?_
                refine lv_imul hx hb dX12_remember_105 ?_
                refine lv_iload hx hb dX12_remember_106 (lv_at hl 5 rfl) ?_
                refine lv_iadd hx hb dX12_remember_108 ?_
                have hin_37 := h.1
                have h := h.2
                refine va_zald hx hb hK hP 20 1 rfl rfl hin_37 dX12_remember_109 ?_
                refine lv_if_eq (tgt := 134) hx hb dX12_remember_110 (by decide) (fun c_38 => ?_) (fun c_38 => ?_)
                · have h := h.1 c_38
                  refine lv_iconst (v := 0) hx hb dX12_remember_134 (by decide) ?_
                  have hin_39 := h.1
                  have h := h.2
                  refine va_zast hx hb hK hP hD hS 20 1 rfl rfl hin_39 dX12_remember_135 (fun H locs hP hD hS => ?_)
                  obtain ⟨S39, eS39⟩ : ∃ z, z = ms S36 21 (upd (S36 21) ((11 * x3_1) + x3_4 : Int32).toNatClampNeg (vp_nar .boolean 0)) := ⟨_, rfl⟩
                  have hP : va_P D vwCl (mW cI cZ h0 q S39) H := by rw [eS39]; exact hP
                  have hD : va_D A (mW cI cZ h0 q S39) := by rw [eS39]; exact hD
                  have h := h S39 eS39
                  refine lv_iinc (v := x3_4 + 1) (lv' := [(4, .int (x3_4 + 1)), (5, .int 0), (0, .ref h0), (1, .int x3_1), (2, .ref (q 42)), (3, .int x3_3)]) hx hb dX12_remember_136 hl (k := 5) rfl rfl (by decide) rfl (fun ls hl => ?_)
                  refine lv_goto (tgt := 3) hx hb dX12_remember_139 (by decide) ?_
                  exact ih_3  S39 x3_1 x3_3 (x3_4 + 1) H locs _ h hP hD hS (lv_sub hl [2, 3, 4, 5, 0] rfl)
                · have h := h.2 c_38
                  refine lv_aload_n hx hb dX12_remember_113 rfl (lv_at hl 1 rfl) ?_
                  refine va_get (D := D) (ci := 12) (v := .ref (q 20)) (C := RX12) (T := TX12) (N := 52) hx hb hts (fun _ h => List.mem_cons_of_mem _ (List.mem_append_right _ h)) hown hK hP 0 rfl rfl 20 (by decide) (hts (.fieldLink RX12 65 "TemplateForgeModel" "value" "[I") (List.mem_of_getElem? (i := 4) rfl)) (fun _ h9 => h9) rfl dX12_remember_114 ?_
                  refine lv_bipush (v := 11) hx hb dX12_remember_117 (by decide) ?_
                  refine lv_iload_n hx hb dX12_remember_119 rfl (lv_at hl 2 rfl) ?_
                  refine lv_imul hx hb dX12_remember_120 ?_
                  refine lv_iload hx hb dX12_remember_121 (lv_at hl 5 rfl) ?_
                  refine lv_iadd hx hb dX12_remember_123 ?_
                  have hin_40 := h.1
                  have h := h.2
                  refine va_iald hx hb hK hP 19 0 rfl rfl hin_40 dX12_remember_124 ?_
                  refine lv_iload hx hb dX12_remember_125 (lv_at hl 0 rfl) ?_
                  refine lv_icmp_ne (tgt := 134) hx hb dX12_remember_127 (by decide) (fun c_41 => ?_) (fun c_41 => ?_)
                  · have h := h.1 c_41
                    refine lv_iconst (v := 0) hx hb dX12_remember_134 (by decide) ?_
                    have hin_42 := h.1
                    have h := h.2
                    refine va_zast hx hb hK hP hD hS 20 1 rfl rfl hin_42 dX12_remember_135 (fun H locs hP hD hS => ?_)
                    obtain ⟨S42, eS42⟩ : ∃ z, z = ms S36 21 (upd (S36 21) ((11 * x3_1) + x3_4 : Int32).toNatClampNeg (vp_nar .boolean 0)) := ⟨_, rfl⟩
                    have hP : va_P D vwCl (mW cI cZ h0 q S42) H := by rw [eS42]; exact hP
                    have hD : va_D A (mW cI cZ h0 q S42) := by rw [eS42]; exact hD
                    have h := h S42 eS42
                    refine lv_iinc (v := x3_4 + 1) (lv' := [(4, .int (x3_4 + 1)), (5, .int 0), (0, .ref h0), (1, .int x3_1), (2, .ref (q 42)), (3, .int x3_3)]) hx hb dX12_remember_136 hl (k := 5) rfl rfl (by decide) rfl (fun ls hl => ?_)
                    refine lv_goto (tgt := 3) hx hb dX12_remember_139 (by decide) ?_
                    exact ih_3  S42 x3_1 x3_3 (x3_4 + 1) H locs _ h hP hD hS (lv_sub hl [2, 3, 4, 5, 0] rfl)
                  · have h := h.2 c_41
                    refine lv_iconst (v := 1) hx hb dX12_remember_130 (by decide) ?_
                    refine lv_goto (tgt := 135) hx hb dX12_remember_131 (by decide) ?_
                    have hin_43 := h.1
                    have h := h.2
                    refine va_zast hx hb hK hP hD hS 20 1 rfl rfl hin_43 dX12_remember_135 (fun H locs hP hD hS => ?_)
                    obtain ⟨S43, eS43⟩ : ∃ z, z = ms S36 21 (upd (S36 21) ((11 * x3_1) + x3_4 : Int32).toNatClampNeg (vp_nar .boolean 1)) := ⟨_, rfl⟩
                    have hP : va_P D vwCl (mW cI cZ h0 q S43) H := by rw [eS43]; exact hP
                    have hD : va_D A (mW cI cZ h0 q S43) := by rw [eS43]; exact hD
                    have h := h S43 eS43
                    refine lv_iinc (v := x3_4 + 1) (lv' := [(4, .int (x3_4 + 1)), (5, .int 0), (0, .ref h0), (1, .int x3_1), (2, .ref (q 42)), (3, .int x3_3)]) hx hb dX12_remember_136 hl (k := 5) rfl rfl (by decide) rfl (fun ls hl => ?_)
                    refine lv_goto (tgt := 3) hx hb dX12_remember_139 (by decide) ?_
                    exact ih_3  S43 x3_1 x3_3 (x3_4 + 1) H locs _ h hP hD hS (lv_sub hl [2, 3, 4, 5, 0] rfl)
            · have h := h.2 c_25
              refine lv_aload_n hx hb dX12_remember_27 rfl (lv_at hl 2 rfl) ?_
              refine lv_iload_n hx hb dX12_remember_28 rfl (lv_at hl 3 rfl) ?_
              refine lv_iload hx hb dX12_remember_29 (lv_at hl 4 rfl) ?_
              refine lv_iadd hx hb dX12_remember_31 ?_
              have hin_44 := h.1
              have h := h.2
              refine va_iald hx hb hK hP 38 0 rfl rfl hin_44 dX12_remember_32 ?_
              refine lv_goto (tgt := 49) hx hb dX12_remember_33 (by decide) ?_
              refine lv_istore (lv' := [(5, .int (S_3 42 (x3_3 + x3_4 : Int32).toNatClampNeg)), (0, .ref h0), (1, .int x3_1), (2, .ref (q 42)), (3, .int x3_3), (4, .int x3_4)]) hx hb dX12_remember_49 hl (by decide) rfl (fun ls hl => ?_)
              refine lv_aload_n hx hb dX12_remember_51 rfl (lv_at hl 1 rfl) ?_
              refine va_get (D := D) (ci := 12) (v := .ref (q 16)) (C := RX12) (T := TX12) (N := 52) hx hb hts (fun _ h => List.mem_cons_of_mem _ (List.mem_append_right _ h)) hown hK hP 0 rfl rfl 16 (by decide) (hts (.fieldLink RX12 53 "TemplateForgeModel" "counted" "[I") (List.mem_of_getElem? (i := 1) rfl)) (fun _ h9 => h9) rfl dX12_remember_52 ?_
              refine lv_iload_n hx hb dX12_remember_55 rfl (lv_at hl 2 rfl) ?_
              have hin_45 := h.1
              have h := h.2
              refine va_iald hx hb hK hP 15 0 rfl rfl hin_45 dX12_remember_56 ?_
              refine lv_if_ne (tgt := 87) hx hb dX12_remember_57 (by decide) (fun c_46 => ?_) (fun c_46 => ?_)
              · have h := h.1 c_46
                refine lv_aload_n hx hb dX12_remember_87 rfl (lv_at hl 1 rfl) ?_
                refine va_get (D := D) (ci := 12) (v := .ref (q 21)) (C := RX12) (T := TX12) (N := 52) hx hb hts (fun _ h => List.mem_cons_of_mem _ (List.mem_append_right _ h)) hown hK hP 0 rfl rfl 21 (by decide) (hts (.fieldLink RX12 68 "TemplateForgeModel" "isLike" "[Z") (List.mem_of_getElem? (i := 3) rfl)) (fun _ h9 => h9) rfl dX12_remember_88 ?_
                refine lv_bipush (v := 11) hx hb dX12_remember_91 (by decide) ?_
                refine lv_iload_n hx hb dX12_remember_93 rfl (lv_at hl 2 rfl) ?_
                refine lv_imul hx hb dX12_remember_94 ?_
                refine lv_iload hx hb dX12_remember_95 (lv_at hl 5 rfl) ?_
                refine lv_iadd hx hb dX12_remember_97 ?_
                refine lv_aload_n hx hb dX12_remember_98 rfl (lv_at hl 1 rfl) ?_
                refine va_get (D := D) (ci := 12) (v := .ref (q 21)) (C := RX12) (T := TX12) (N := 52) hx hb hts (fun _ h => List.mem_cons_of_mem _ (List.mem_append_right _ h)) hown hK hP 0 rfl rfl 21 (by decide) (hts (.fieldLink RX12 68 "TemplateForgeModel" "isLike" "[Z") (List.mem_of_getElem? (i := 3) rfl)) (fun _ h9 => h9) rfl dX12_remember_99 ?_
                refine lv_bipush (v := 11) hx hb dX12_remember_102 (by decide) ?_
                refine lv_iload_n hx hb dX12_remember_104 rfl (lv_at hl 2 rfl) ?_
                refine lv_imul hx hb dX12_remember_105 ?_
                refine lv_iload hx hb dX12_remember_106 (lv_at hl 5 rfl) ?_
                refine lv_iadd hx hb dX12_remember_108 ?_
                have hin_47 := h.1
                have h := h.2
                refine va_zald hx hb hK hP 20 1 rfl rfl hin_47 dX12_remember_109 ?_
                refine lv_if_eq (tgt := 134) hx hb dX12_remember_110 (by decide) (fun c_48 => ?_) (fun c_48 => ?_)
                · have h := h.1 c_48
                  refine lv_iconst (v := 0) hx hb dX12_remember_134 (by decide) ?_
                  have hin_49 := h.1
                  have h := h.2
                  refine va_zast hx hb hK hP hD hS 20 1 rfl rfl hin_49 dX12_remember_135 (fun H locs hP hD hS => ?_)
                  obtain ⟨S49, eS49⟩ : ∃ z, z = ms S_3 21 (upd (S_3 21) ((11 * x3_1) + x3_4 : Int32).toNatClampNeg (vp_nar .boolean 0)) := ⟨_, rfl⟩
                  have hP : va_P D vwCl (mW cI cZ h0 q S49) H := by rw [eS49]; exact hP
                  have hD : va_D A (mW cI cZ h0 q S49) := by rw [eS49]; exact hD
                  have h := h S49 eS49
                  refine lv_iinc (v := x3_4 + 1) (lv' := [(4, .int (x3_4 + 1)), (5, .int (S_3 42 (x3_3 + x3_4 : Int32).toNatClampNeg)), (0, .ref h0), (1, .int x3_1), (2, .ref (q 42)), (3, .int x3_3)]) hx hb dX12_remember_136 hl (k := 5) rfl rfl (by decide) rfl (fun ls hl => ?_)
                  refine lv_goto (tgt := 3) hx hb dX12_remember_139 (by decide) ?_
                  exact ih_3  S49 x3_1 x3_3 (x3_4 + 1) H locs _ h hP hD hS (lv_sub hl [2, 3, 4, 5, 0] rfl)
                · have h := h.2 c_48
                  refine lv_aload_n hx hb dX12_remember_113 rfl (lv_at hl 1 rfl) ?_
                  refine va_get (D := D) (ci := 12) (v := .ref (q 20)) (C := RX12) (T := TX12) (N := 52) hx hb hts (fun _ h => List.mem_cons_of_mem _ (List.mem_append_right _ h)) hown hK hP 0 rfl rfl 20 (by decide) (hts (.fieldLink RX12 65 "TemplateForgeModel" "value" "[I") (List.mem_of_getElem? (i := 4) rfl)) (fun _ h9 => h9) rfl dX12_remember_114 ?_
                  refine lv_bipush (v := 11) hx hb dX12_remember_117 (by decide) ?_
                  refine lv_iload_n hx hb dX12_remember_119 rfl (lv_at hl 2 rfl) ?_
                  refine lv_imul hx hb dX12_remember_120 ?_
                  refine lv_iload hx hb dX12_remember_121 (lv_at hl 5 rfl) ?_
                  refine lv_iadd hx hb dX12_remember_123 ?_
                  have hin_50 := h.1
                  have h := h.2
                  refine va_iald hx hb hK hP 19 0 rfl rfl hin_50 dX12_remember_124 ?_
                  refine lv_iload hx hb dX12_remember_125 (lv_at hl 0 rfl) ?_
                  refine lv_icmp_ne (tgt := 134) hx hb dX12_remember_127 (by decide) (fun c_51 => ?_) (fun c_51 => ?_)
                  · have h := h.1 c_51
                    refine lv_iconst (v := 0) hx hb dX12_remember_134 (by decide) ?_
                    have hin_52 := h.1
                    have h := h.2
                    refine va_zast hx hb hK hP hD hS 20 1 rfl rfl hin_52 dX12_remember_135 (fun H locs hP hD hS => ?_)
                    obtain ⟨S52, eS52⟩ : ∃ z, z = ms S_3 21 (upd (S_3 21) ((11 * x3_1) + x3_4 : Int32).toNatClampNeg (vp_nar .boolean 0)) := ⟨_, rfl⟩
                    have hP : va_P D vwCl (mW cI cZ h0 q S52) H := by rw [eS52]; exact hP
                    have hD : va_D A (mW cI cZ h0 q S52) := by rw [eS52]; exact hD
                    have h := h S52 eS52
                    refine lv_iinc (v := x3_4 + 1) (lv' := [(4, .int (x3_4 + 1)), (5, .int (S_3 42 (x3_3 + x3_4 : Int32).toNatClampNeg)), (0, .ref h0), (1, .int x3_1), (2, .ref (q 42)), (3, .int x3_3)]) hx hb dX12_remember_136 hl (k := 5) rfl rfl (by decide) rfl (fun ls hl => ?_)
                    refine lv_goto (tgt := 3) hx hb dX12_remember_139 (by decide) ?_
                    exact ih_3  S52 x3_1 x3_3 (x3_4 + 1) H locs _ h hP hD hS (lv_sub hl [2, 3, 4, 5, 0] rfl)
                  · have h := h.2 c_51
                    refine lv_iconst (v := 1) hx hb dX12_remember_130 (by decide) ?_
                    refine lv_goto (tgt := 135) hx hb dX12_remember_131 (by decide) ?_
                    have hin_53 := h.1
                    have h := h.2
                    refine va_zast hx hb hK hP hD hS 20 1 rfl rfl hin_53 dX12_remember_135 (fun H locs hP hD hS => ?_)
                    obtain ⟨S53, eS53⟩ : ∃ z, z = ms S_3 21 (upd (S_3 21) ((11 * x3_1) + x3_4 : Int32).toNatClampNeg (vp_nar .boolean 1)) := ⟨_, rfl⟩
                    have hP : va_P D vwCl (mW cI cZ h0 q S53) H := by rw [eS53]; exact hP
                    have hD : va_D A (mW cI cZ h0 q S53) := by rw [eS53]; exact hD
                    have h := h S53 eS53
                    refine lv_iinc (v := x3_4 + 1) (lv' := [(4, .int (x3_4 + 1)), (5, .int (S_3 42 (x3_3 + x3_4 : Int32).toNatClampNeg)), (0, .ref h0), (1, .int x3_1), (2, .ref (q 42)), (3, .int x3_3)]) hx hb dX12_remember_136 hl (k := 5) rfl rfl (by decide) rfl (fun ls hl => ?_)
                    refine lv_goto (tgt := 3) hx hb dX12_remember_139 (by decide) ?_
                    exact ih_3  S53 x3_1 x3_3 (x3_4 + 1) H locs _ h hP hD hS (lv_sub hl [2, 3, 4, 5, 0] rfl)
              · have h := h.2 c_46
                refine lv_aload_n hx hb dX12_remember_60 rfl (lv_at hl 1 rfl) ?_
                refine va_get (D := D) (ci := 12) (v := .ref (q 20)) (C := RX12) (T := TX12) (N := 52) hx hb hts (fun _ h => List.mem_cons_of_mem _ (List.mem_append_right _ h)) hown hK hP 0 rfl rfl 20 (by decide) (hts (.fieldLink RX12 65 "TemplateForgeModel" "value" "[I") (List.mem_of_getElem? (i := 4) rfl)) (fun _ h9 => h9) rfl dX12_remember_61 ?_
                refine lv_bipush (v := 11) hx hb dX12_remember_64 (by decide) ?_
                refine lv_iload_n hx hb dX12_remember_66 rfl (lv_at hl 2 rfl) ?_
                refine lv_imul hx hb dX12_remember_67 ?_
                refine lv_iload hx hb dX12_remember_68 (lv_at hl 5 rfl) ?_
                refine lv_iadd hx hb dX12_remember_70 ?_
                refine lv_iload hx hb dX12_remember_71 (lv_at hl 0 rfl) ?_
                have hin_54 := h.1
                have h := h.2
                refine va_iast hx hb hK hP hD hS 19 0 rfl rfl hin_54 dX12_remember_73 (fun H locs hP hD hS => ?_)
                obtain ⟨S54, eS54⟩ : ∃ z, z = ms S_3 20 (upd (S_3 20) ((11 * x3_1) + x3_4 : Int32).toNatClampNeg (S_3 42 (x3_3 + x3_4 : Int32).toNatClampNeg)) := ⟨_, rfl⟩
                have hP : va_P D vwCl (mW cI cZ h0 q S54) H := by rw [eS54]; exact hP
                have hD : va_D A (mW cI cZ h0 q S54) := by rw [eS54]; exact hD
                have h := h S54 eS54
                refine lv_aload_n hx hb dX12_remember_74 rfl (lv_at hl 1 rfl) ?_
                refine va_get (D := D) (ci := 12) (v := .ref (q 21)) (C := RX12) (T := TX12) (N := 52) hx hb hts (fun _ h => List.mem_cons_of_mem _ (List.mem_append_right _ h)) hown hK hP 0 rfl rfl 21 (by decide) (hts (.fieldLink RX12 68 "TemplateForgeModel" "isLike" "[Z") (List.mem_of_getElem? (i := 3) rfl)) (fun _ h9 => h9) rfl dX12_remember_75 ?_
                refine lv_bipush (v := 11) hx hb dX12_remember_78 (by decide) ?_
                refine lv_iload_n hx hb dX12_remember_80 rfl (lv_at hl 2 rfl) ?_
                refine lv_imul hx hb dX12_remember_81 ?_
                refine lv_iload hx hb dX12_remember_82 (lv_at hl 5 rfl) ?_
                refine lv_iadd hx hb dX12_remember_84 ?_
                refine lv_iconst (v := 1) hx hb dX12_remember_85 (by decide) ?_
                have hin_55 := h.1
                have h := h.2
                refine va_zast hx hb hK hP hD hS 20 1 rfl rfl hin_55 dX12_remember_86 (fun H locs hP hD hS => ?_)
                obtain ⟨S55, eS55⟩ : ∃ z, z = ms S54 21 (upd (S54 21) ((11 * x3_1) + x3_4 : Int32).toNatClampNeg (vp_nar .boolean 1)) := ⟨_, rfl⟩
                have hP : va_P D vwCl (mW cI cZ h0 q S55) H := by rw [eS55]; exact hP
                have hD : va_D A (mW cI cZ h0 q S55) := by rw [eS55]; exact hD
                have h := h S55 eS55
                refine lv_aload_n hx hb dX12_remember_87 rfl (lv_at hl 1 rfl) ?_
                refine va_get (D := D) (ci := 12) (v := .ref (q 21)) (C := RX12) (T := TX12) (N := 52) hx hb hts (fun _ h => List.mem_cons_of_mem _ (List.mem_append_right _ h)) hown hK hP 0 rfl rfl 21 (by decide) (hts (.fieldLink RX12 68 "TemplateForgeModel" "isLike" "[Z") (List.mem_of_getElem? (i := 3) rfl)) (fun _ h9 => h9) rfl dX12_remember_88 ?_
                refine lv_bipush (v := 11) hx hb dX12_remember_91 (by decide) ?_
                refine lv_iload_n hx hb dX12_remember_93 rfl (lv_at hl 2 rfl) ?_
                refine lv_imul hx hb dX12_remember_94 ?_
                refine lv_iload hx hb dX12_remember_95 (lv_at hl 5 rfl) ?_
                refine lv_iadd hx hb dX12_remember_97 ?_
                refine lv_aload_n hx hb dX12_remember_98 rfl (lv_at hl 1 rfl) ?_
                refine va_get (D := D) (ci := 12) (v := .ref (q 21)) (C := RX12) (T := TX12) (N := 52) hx hb hts (fun _ h => List.mem_cons_of_mem _ (List.mem_append_right _ h)) hown hK hP 0 rfl rfl 21 (by decide) (hts (.fieldLink RX12 68 "TemplateForgeModel" "isLike" "[Z") (List.mem_of_getElem? (i := 3) rfl)) (fun _ h9 => h9) rfl dX12_remember_99 ?_
                refine lv_bipush (v := 11) hx hb dX12_remember_102 (by decide) ?_
                refine lv_iload_n hx hb dX12_remember_104 rfl (lv_at hl 2 rfl) ?_
                refine lv_imul hx hb dX12_remember_105 ?_
                refine lv_iload hx hb dX12_remember_106 (lv_at hl 5 rfl) ?_
                refine lv_iadd hx hb dX12_remember_108 ?_
                have hin_56 := h.1
                have h := h.2
                refine va_zald hx hb hK hP 20 1 rfl rfl hin_56 dX12_remember_109 ?_
                refine lv_if_eq (tgt := 134) hx hb dX12_remember_110 (by decide) (fun c_57 => ?_) (fun c_57 => ?_)
                · have h := h.1 c_57
                  refine lv_iconst (v := 0) hx hb dX12_remember_134 (by decide) ?_
                  have hin_58 := h.1
                  have h := h.2
                  refine va_zast hx hb hK hP hD hS 20 1 rfl rfl hin_58 dX12_remember_135 (fun H locs hP hD hS => ?_)
                  obtain ⟨S58, eS58⟩ : ∃ z, z = ms S55 21 (upd (S55 21) ((11 * x3_1) + x3_4 : Int32).toNatClampNeg (vp_nar .boolean 0)) := ⟨_, rfl⟩
                  have hP : va_P D vwCl (mW cI cZ h0 q S58) H := by rw [eS58]; exact hP
                  have hD : va_D A (mW cI cZ h0 q S58) := by rw [eS58]; exact hD
                  have h := h S58 eS58
                  refine lv_iinc (v := x3_4 + 1) (lv' := [(4, .int (x3_4 + 1)), (5, .int (S_3 42 (x3_3 + x3_4 : Int32).toNatClampNeg)), (0, .ref h0), (1, .int x3_1), (2, .ref (q 42)), (3, .int x3_3)]) hx hb dX12_remember_136 hl (k := 5) rfl rfl (by decide) rfl (fun ls hl => ?_)
                  refine lv_goto (tgt := 3) hx hb dX12_remember_139 (by decide) ?_
                  exact ih_3  S58 x3_1 x3_3 (x3_4 + 1) H locs _ h hP hD hS (lv_sub hl [2, 3, 4, 5, 0] rfl)
                · have h := h.2 c_57
                  refine lv_aload_n hx hb dX12_remember_113 rfl (lv_at hl 1 rfl) ?_
                  refine va_get (D := D) (ci := 12) (v := .ref (q 20)) (C := RX12) (T := TX12) (N := 52) hx hb hts (fun _ h => List.mem_cons_of_mem _ (List.mem_append_right _ h)) hown hK hP 0 rfl rfl 20 (by decide) (hts (.fieldLink RX12 65 "TemplateForgeModel" "value" "[I") (List.mem_of_getElem? (i := 4) rfl)) (fun _ h9 => h9) rfl dX12_remember_114 ?_
                  refine lv_bipush (v := 11) hx hb dX12_remember_117 (by decide) ?_
                  refine lv_iload_n hx hb dX12_remember_119 rfl (lv_at hl 2 rfl) ?_
                  refine lv_imul hx hb dX12_remember_120 ?_
                  refine lv_iload hx hb dX12_remember_121 (lv_at hl 5 rfl) ?_
                  refine lv_iadd hx hb dX12_remember_123 ?_
                  have hin_59 := h.1
                  have h := h.2
                  refine va_iald hx hb hK hP 19 0 rfl rfl hin_59 dX12_remember_124 ?_
                  refine lv_iload hx hb dX12_remember_125 (lv_at hl 0 rfl) ?_
                  refine lv_icmp_ne (tgt := 134) hx hb dX12_remember_127 (by decide) (fun c_60 => ?_) (fun c_60 => ?_)
                  · have h := h.1 c_60
                    refine lv_iconst (v := 0) hx hb dX12_remember_134 (by decide) ?_
                    have hin_61 := h.1
                    have h := h.2
                    refine va_zast hx hb hK hP hD hS 20 1 rfl rfl hin_61 dX12_remember_135 (fun H locs hP hD hS => ?_)
                    obtain ⟨S61, eS61⟩ : ∃ z, z = ms S55 21 (upd (S55 21) ((11 * x3_1) + x3_4 : Int32).toNatClampNeg (vp_nar .boolean 0)) := ⟨_, rfl⟩
                    have hP : va_P D vwCl (mW cI cZ h0 q S61) H := by rw [eS61]; exact hP
                    have hD : va_D A (mW cI cZ h0 q S61) := by rw [eS61]; exact hD
                    have h := h S61 eS61
                    refine lv_iinc (v := x3_4 + 1) (lv' := [(4, .int (x3_4 + 1)), (5, .int (S_3 42 (x3_3 + x3_4 : Int32).toNatClampNeg)), (0, .ref h0), (1, .int x3_1), (2, .ref (q 42)), (3, .int x3_3)]) hx hb dX12_remember_136 hl (k := 5) rfl rfl (by decide) rfl (fun ls hl => ?_)
                    refine lv_goto (tgt := 3) hx hb dX12_remember_139 (by decide) ?_
                    exact ih_3  S61 x3_1 x3_3 (x3_4 + 1) H locs _ h hP hD hS (lv_sub hl [2, 3, 4, 5, 0] rfl)
                  · have h := h.2 c_60
                    refine lv_iconst (v := 1) hx hb dX12_remember_130 (by decide) ?_
                    refine lv_goto (tgt := 135) hx hb dX12_remember_131 (by decide) ?_
                    have hin_62 := h.1
                    have h := h.2
                    refine va_zast hx hb hK hP hD hS 20 1 rfl rfl hin_62 dX12_remember_135 (fun H locs hP hD hS => ?_)
                    obtain ⟨S62, eS62⟩ : ∃ z, z = ms S55 21 (upd (S55 21) ((11 * x3_1) + x3_4 : Int32).toNatClampNeg (vp_nar .boolean 1)) := ⟨_, rfl⟩
                    have hP : va_P D vwCl (mW cI cZ h0 q S62) H := by rw [eS62]; exact hP
                    have hD : va_D A (mW cI cZ h0 q S62) := by rw [eS62]; exact hD
                    have h := h S62 eS62
                    refine lv_iinc (v := x3_4 + 1) (lv' := [(4, .int (x3_4 + 1)), (5, .int (S_3 42 (x3_3 + x3_4 : Int32).toNatClampNeg)), (0, .ref h0), (1, .int x3_1), (2, .ref (q 42)), (3, .int x3_3)]) hx hb dX12_remember_136 hl (k := 5) rfl rfl (by decide) rfl (fun ls hl => ?_)
                    refine lv_goto (tgt := 3) hx hb dX12_remember_139 (by decide) ?_
                    exact ih_3  S62 x3_1 x3_3 (x3_4 + 1) H locs _ h hP hD hS (lv_sub hl [2, 3, 4, 5, 0] rfl)
    obtain ⟨n_3, h⟩ := h
    exact LP_3 n_3 S a1 a3 0 H locs _ h hP hD hS (lv_sub hl [1, 2, 3, 4, 0] rfl)
  exact key _ _ hP va_S.rf
def wl_X12_remember_f_3 (K_142 : MST → Int32 → Prop) (Post : MST → Prop) : Nat → MST → Int32 → Int32 → Int32 → Prop
  | 0, _, _, _, _ => False
  | n_3 + 1, S_3, x3_1, x3_3, x3_4 => ((11 ≤ x3_4) → ((K_142 S_3 x3_1))) ∧ ((¬ (11 ≤ x3_4)) → (((3 ≤ x3_4) → (vp_in (x3_4 - 3) 8 ∧ (vp_in x3_1 8 ∧ (((¬ (((S_3 16 (x3_1 : Int32).toNatClampNeg) : Int32) = 0)) → (vp_in ((11 * x3_1) + x3_4) 88 ∧ (((((S_3 21 ((11 * x3_1) + x3_4 : Int32).toNatClampNeg) : Int32) = 0) → (vp_in ((11 * x3_1) + x3_4) 88 ∧ (∀ S10 : MST, S10 = ms S_3 21 (upd (S_3 21) ((11 * x3_1) + x3_4 : Int32).toNatClampNeg (vp_nar .boolean 0)) → (wl_X12_remember_f_3 K_142 Post n_3 S10 x3_1 x3_3 (x3_4 + 1))))) ∧ ((¬ (((S_3 21 ((11 * x3_1) + x3_4 : Int32).toNatClampNeg) : Int32) = 0)) → (vp_in ((11 * x3_1) + x3_4) 88 ∧ (((¬ (((S_3 20 ((11 * x3_1) + x3_4 : Int32).toNatClampNeg) : Int32) = (S_3 12 (x3_4 - 3 : Int32).toNatClampNeg))) → (vp_in ((11 * x3_1) + x3_4) 88 ∧ (∀ S13 : MST, S13 = ms S_3 21 (upd (S_3 21) ((11 * x3_1) + x3_4 : Int32).toNatClampNeg (vp_nar .boolean 0)) → (wl_X12_remember_f_3 K_142 Post n_3 S13 x3_1 x3_3 (x3_4 + 1))))) ∧ ((((S_3 20 ((11 * x3_1) + x3_4 : Int32).toNatClampNeg) : Int32) = (S_3 12 (x3_4 - 3 : Int32).toNatClampNeg)) → (vp_in ((11 * x3_1) + x3_4) 88 ∧ (∀ S14 : MST, S14 = ms S_3 21 (upd (S_3 21) ((11 * x3_1) + x3_4 : Int32).toNatClampNeg (vp_nar .boolean 1)) → (wl_X12_remember_f_3 K_142 Post n_3 S14 x3_1 x3_3 (x3_4 + 1))))))))))) ∧ ((((S_3 16 (x3_1 : Int32).toNatClampNeg) : Int32) = 0) → (vp_in ((11 * x3_1) + x3_4) 88 ∧ (∀ S15 : MST, S15 = ms S_3 20 (upd (S_3 20) ((11 * x3_1) + x3_4 : Int32).toNatClampNeg (S_3 12 (x3_4 - 3 : Int32).toNatClampNeg)) → (vp_in ((11 * x3_1) + x3_4) 88 ∧ (∀ S16 : MST, S16 = ms S15 21 (upd (S15 21) ((11 * x3_1) + x3_4 : Int32).toNatClampNeg (vp_nar .boolean 1)) → (vp_in ((11 * x3_1) + x3_4) 88 ∧ (((((S16 21 ((11 * x3_1) + x3_4 : Int32).toNatClampNeg) : Int32) = 0) → (vp_in ((11 * x3_1) + x3_4) 88 ∧ (∀ S19 : MST, S19 = ms S16 21 (upd (S16 21) ((11 * x3_1) + x3_4 : Int32).toNatClampNeg (vp_nar .boolean 0)) → (wl_X12_remember_f_3 K_142 Post n_3 S19 x3_1 x3_3 (x3_4 + 1))))) ∧ ((¬ (((S16 21 ((11 * x3_1) + x3_4 : Int32).toNatClampNeg) : Int32) = 0)) → (vp_in ((11 * x3_1) + x3_4) 88 ∧ (((¬ (((S16 20 ((11 * x3_1) + x3_4 : Int32).toNatClampNeg) : Int32) = (S_3 12 (x3_4 - 3 : Int32).toNatClampNeg))) → (vp_in ((11 * x3_1) + x3_4) 88 ∧ (∀ S22 : MST, S22 = ms S16 21 (upd (S16 21) ((11 * x3_1) + x3_4 : Int32).toNatClampNeg (vp_nar .boolean 0)) → (wl_X12_remember_f_3 K_142 Post n_3 S22 x3_1 x3_3 (x3_4 + 1))))) ∧ ((((S16 20 ((11 * x3_1) + x3_4 : Int32).toNatClampNeg) : Int32) = (S_3 12 (x3_4 - 3 : Int32).toNatClampNeg)) → (vp_in ((11 * x3_1) + x3_4) 88 ∧ (∀ S23 : MST, S23 = ms S16 21 (upd (S16 21) ((11 * x3_1) + x3_4 : Int32).toNatClampNeg (vp_nar .boolean 1)) → (wl_X12_remember_f_3 K_142 Post n_3 S23 x3_1 x3_3 (x3_4 + 1))))))))))))))))))) ∧ ((¬ (3 ≤ x3_4)) → (vp_in x3_1 8 ∧ ((((S_3 1 (x3_1 : Int32).toNatClampNeg) ≤ x3_4) → (vp_in x3_1 8 ∧ (((¬ (((S_3 16 (x3_1 : Int32).toNatClampNeg) : Int32) = 0)) → (vp_in ((11 * x3_1) + x3_4) 88 ∧ (((((S_3 21 ((11 * x3_1) + x3_4 : Int32).toNatClampNeg) : Int32) = 0) → (vp_in ((11 * x3_1) + x3_4) 88 ∧ (∀ S30 : MST, S30 = ms S_3 21 (upd (S_3 21) ((11 * x3_1) + x3_4 : Int32).toNatClampNeg (vp_nar .boolean 0)) → (wl_X12_remember_f_3 K_142 Post n_3 S30 x3_1 x3_3 (x3_4 + 1))))) ∧ ((¬ (((S_3 21 ((11 * x3_1) + x3_4 : Int32).toNatClampNeg) : Int32) = 0)) → (vp_in ((11 * x3_1) + x3_4) 88 ∧ (((¬ (((S_3 20 ((11 * x3_1) + x3_4 : Int32).toNatClampNeg) : Int32) = 0)) → (vp_in ((11 * x3_1) + x3_4) 88 ∧ (∀ S33 : MST, S33 = ms S_3 21 (upd (S_3 21) ((11 * x3_1) + x3_4 : Int32).toNatClampNeg (vp_nar .boolean 0)) → (wl_X12_remember_f_3 K_142 Post n_3 S33 x3_1 x3_3 (x3_4 + 1))))) ∧ ((((S_3 20 ((11 * x3_1) + x3_4 : Int32).toNatClampNeg) : Int32) = 0) → (vp_in ((11 * x3_1) + x3_4) 88 ∧ (∀ S34 : MST, S34 = ms S_3 21 (upd (S_3 21) ((11 * x3_1) + x3_4 : Int32).toNatClampNeg (vp_nar .boolean 1)) → (wl_X12_remember_f_3 K_142 Post n_3 S34 x3_1 x3_3 (x3_4 + 1))))))))))) ∧ ((((S_3 16 (x3_1 : Int32).toNatClampNeg) : Int32) = 0) → (vp_in ((11 * x3_1) + x3_4) 88 ∧ (∀ S35 : MST, S35 = ms S_3 20 (upd (S_3 20) ((11 * x3_1) + x3_4 : Int32).toNatClampNeg 0) → (vp_in ((11 * x3_1) + x3_4) 88 ∧ (∀ S36 : MST, S36 = ms S35 21 (upd (S35 21) ((11 * x3_1) + x3_4 : Int32).toNatClampNeg (vp_nar .boolean 1)) → (vp_in ((11 * x3_1) + x3_4) 88 ∧ (((((S36 21 ((11 * x3_1) + x3_4 : Int32).toNatClampNeg) : Int32) = 0) → (vp_in ((11 * x3_1) + x3_4) 88 ∧ (∀ S39 : MST, S39 = ms S36 21 (upd (S36 21) ((11 * x3_1) + x3_4 : Int32).toNatClampNeg (vp_nar .boolean 0)) → (wl_X12_remember_f_3 K_142 Post n_3 S39 x3_1 x3_3 (x3_4 + 1))))) ∧ ((¬ (((S36 21 ((11 * x3_1) + x3_4 : Int32).toNatClampNeg) : Int32) = 0)) → (vp_in ((11 * x3_1) + x3_4) 88 ∧ (((¬ (((S36 20 ((11 * x3_1) + x3_4 : Int32).toNatClampNeg) : Int32) = 0)) → (vp_in ((11 * x3_1) + x3_4) 88 ∧ (∀ S42 : MST, S42 = ms S36 21 (upd (S36 21) ((11 * x3_1) + x3_4 : Int32).toNatClampNeg (vp_nar .boolean 0)) → (wl_X12_remember_f_3 K_142 Post n_3 S42 x3_1 x3_3 (x3_4 + 1))))) ∧ ((((S36 20 ((11 * x3_1) + x3_4 : Int32).toNatClampNeg) : Int32) = 0) → (vp_in ((11 * x3_1) + x3_4) 88 ∧ (∀ S43 : MST, S43 = ms S36 21 (upd (S36 21) ((11 * x3_1) + x3_4 : Int32).toNatClampNeg (vp_nar .boolean 1)) → (wl_X12_remember_f_3 K_142 Post n_3 S43 x3_1 x3_3 (x3_4 + 1)))))))))))))))))) ∧ ((¬ ((S_3 1 (x3_1 : Int32).toNatClampNeg) ≤ x3_4)) → (vp_in (x3_3 + x3_4) 3 ∧ (vp_in x3_1 8 ∧ (((¬ (((S_3 16 (x3_1 : Int32).toNatClampNeg) : Int32) = 0)) → (vp_in ((11 * x3_1) + x3_4) 88 ∧ (((((S_3 21 ((11 * x3_1) + x3_4 : Int32).toNatClampNeg) : Int32) = 0) → (vp_in ((11 * x3_1) + x3_4) 88 ∧ (∀ S49 : MST, S49 = ms S_3 21 (upd (S_3 21) ((11 * x3_1) + x3_4 : Int32).toNatClampNeg (vp_nar .boolean 0)) → (wl_X12_remember_f_3 K_142 Post n_3 S49 x3_1 x3_3 (x3_4 + 1))))) ∧ ((¬ (((S_3 21 ((11 * x3_1) + x3_4 : Int32).toNatClampNeg) : Int32) = 0)) → (vp_in ((11 * x3_1) + x3_4) 88 ∧ (((¬ (((S_3 20 ((11 * x3_1) + x3_4 : Int32).toNatClampNeg) : Int32) = (S_3 51 (x3_3 + x3_4 : Int32).toNatClampNeg))) → (vp_in ((11 * x3_1) + x3_4) 88 ∧ (∀ S52 : MST, S52 = ms S_3 21 (upd (S_3 21) ((11 * x3_1) + x3_4 : Int32).toNatClampNeg (vp_nar .boolean 0)) → (wl_X12_remember_f_3 K_142 Post n_3 S52 x3_1 x3_3 (x3_4 + 1))))) ∧ ((((S_3 20 ((11 * x3_1) + x3_4 : Int32).toNatClampNeg) : Int32) = (S_3 51 (x3_3 + x3_4 : Int32).toNatClampNeg)) → (vp_in ((11 * x3_1) + x3_4) 88 ∧ (∀ S53 : MST, S53 = ms S_3 21 (upd (S_3 21) ((11 * x3_1) + x3_4 : Int32).toNatClampNeg (vp_nar .boolean 1)) → (wl_X12_remember_f_3 K_142 Post n_3 S53 x3_1 x3_3 (x3_4 + 1))))))))))) ∧ ((((S_3 16 (x3_1 : Int32).toNatClampNeg) : Int32) = 0) → (vp_in ((11 * x3_1) + x3_4) 88 ∧ (∀ S54 : MST, S54 = ms S_3 20 (upd (S_3 20) ((11 * x3_1) + x3_4 : Int32).toNatClampNeg (S_3 51 (x3_3 + x3_4 : Int32).toNatClampNeg)) → (vp_in ((11 * x3_1) + x3_4) 88 ∧ (∀ S55 : MST, S55 = ms S54 21 (upd (S54 21) ((11 * x3_1) + x3_4 : Int32).toNatClampNeg (vp_nar .boolean 1)) → (vp_in ((11 * x3_1) + x3_4) 88 ∧ (((((S55 21 ((11 * x3_1) + x3_4 : Int32).toNatClampNeg) : Int32) = 0) → (vp_in ((11 * x3_1) + x3_4) 88 ∧ (∀ S58 : MST, S58 = ms S55 21 (upd (S55 21) ((11 * x3_1) + x3_4 : Int32).toNatClampNeg (vp_nar .boolean 0)) → (wl_X12_remember_f_3 K_142 Post n_3 S58 x3_1 x3_3 (x3_4 + 1))))) ∧ ((¬ (((S55 21 ((11 * x3_1) + x3_4 : Int32).toNatClampNeg) : Int32) = 0)) → (vp_in ((11 * x3_1) + x3_4) 88 ∧ (((¬ (((S55 20 ((11 * x3_1) + x3_4 : Int32).toNatClampNeg) : Int32) = (S_3 51 (x3_3 + x3_4 : Int32).toNatClampNeg))) → (vp_in ((11 * x3_1) + x3_4) 88 ∧ (∀ S61 : MST, S61 = ms S55 21 (upd (S55 21) ((11 * x3_1) + x3_4 : Int32).toNatClampNeg (vp_nar .boolean 0)) → (wl_X12_remember_f_3 K_142 Post n_3 S61 x3_1 x3_3 (x3_4 + 1))))) ∧ ((((S55 20 ((11 * x3_1) + x3_4 : Int32).toNatClampNeg) : Int32) = (S_3 51 (x3_3 + x3_4 : Int32).toNatClampNeg)) → (vp_in ((11 * x3_1) + x3_4) 88 ∧ (∀ S62 : MST, S62 = ms S55 21 (upd (S55 21) ((11 * x3_1) + x3_4 : Int32).toNatClampNeg (vp_nar .boolean 1)) → (wl_X12_remember_f_3 K_142 Post n_3 S62 x3_1 x3_3 (x3_4 + 1))))))))))))))))))))))))
def wp_X12_remember_f (S : MST) (a1 : Int32) (a3 : Int32) (Post : MST → Prop) : Prop :=
  ∃ n_3, wl_X12_remember_f_3 (fun S_142 x142_1 => vp_in x142_1 8 ∧ (vp_in x142_1 8 ∧ (∀ S2 : MST, S2 = ms S_142 16 (upd (S_142 16) (x142_1 : Int32).toNatClampNeg ((S_142 16 (x142_1 : Int32).toNatClampNeg) + 1)) → (Post S2)))) Post n_3 S a1 a3 0
def zw_zd_X12_remember_f_w0 : List Cond := [.fieldLink RX12 53 "TemplateForgeModel" "counted" "[I", .fieldLink RX12 41 "TemplateForgeModel" "fields" "[I", .fieldLink RX12 68 "TemplateForgeModel" "isLike" "[Z", .fieldLink RX12 65 "TemplateForgeModel" "value" "[I", .fieldLink RX12 7 "TemplateForgeModel" "args" "[I"]
def zw_zd_X12_remember_f : List Cond := .code yX12_remember cX12_remember 6 none :: ((zw_zd_X12_remember_f_w0) ++ wsX120)
set_option maxHeartbeats 16000000 in
set_option maxRecDepth 100000 in
theorem zd_X12_remember_f (l : Launch) (D : va_G) (cI cZ cP cF : Nat) (h0 : Nat) (q : Nat → Nat) (S : MST) (a1 : Int32) (a3 : Int32) (sz : Nat) (Post : MST → Prop) (h : wp_X12_remember_f S a1 a3 Post) : Met l yX12_remember zw_zd_X12_remember_f ({ frames := 0, cells := 0, slots := 0, locals := 0 }) (va_Pc [.ref h0, .int a1, .ref (q 51), .int a3] (fun U => U.heap.size = sz ∧ va_P D vwCl (mW cI cZ h0 q S) U.heap ∧ zE D cI cZ cP cF U ∧ va_D (fun _ => True) (mW cI cZ h0 q S))) (va_Qv (fun S' => Post S') (fun (S' : MST) t => va_P D vwCl (mW cI cZ h0 q S') t.heap ∧ va_D (va_A (mW cI cZ h0 q S) sz) (mW cI cZ h0 q S')) (va_A (mW cI cZ h0 q S) sz)) 0 0 (va_A (mW cI cZ h0 q S) sz) := by
  unfold wp_X12_remember_f at h
  refine Met.ofW (cc := cX12_remember) (maxL := 6) (ret := none) (by decide) rfl ?_
  intro p e s m args below meth c s₁ B hml hv
  obtain ⟨rfl, hsz, hP, hE, hD0⟩ := hv
  have hx := B.exec
  have hb := B.bytes
  have hr := B.returns
  have hts := atoms_spec (ws := zw_zd_X12_remember_f) B.pre
  have hown : s.vm.findClass RX12 = some m.cls := findClass_of_methodNamed B.named
  have hlocks := B.notSynchronized
  have hK := hE.k
  subst hsz
  have hD := hD0.self (sz := s.heap.size)
  generalize hAe : va_A (mW cI cZ h0 q S) s.heap.size = A at hD ⊢
  have hA : ∀ q : Nat, s.heap.size ≤ q → A q := fun q h => by rw [← hAe]; exact Or.inr h
  have hl := lv_entry ([.ref h0, .int a1, .ref (q 51), .int a3]) (n := 6) (Nat.le_of_ble_eq_true rfl)
  rw [lg_entry_eq]
  generalize (lg_sl ([.ref h0, .int a1, .ref (q 51), .int a3]) ++ List.replicate (6 - (lg_sl ([.ref h0, .int a1, .ref (q 51), .int a3])).length) Slot.unset).toArray = ls at hl ⊢
  have hl : lv_has ls 6 [(0, .ref h0), (1, .int a1), (2, .ref (q 51)), (3, .int a3)] := hl
  have key : ∀ (H : Heap) (locs : List Loc), va_P D vwCl (mW cI cZ h0 q S) H → va_S A s.heap H locs → W p l e (headSpec zw_zd_X12_remember_f ({ frames := 0, cells := 0, slots := 0, locals := 0 })).room s m ([.ref h0, .int a1, .ref (q 51), .int a3] : List Value).toArray below meth c H locs 0 0 (MQ below (va_Qv (fun S' => Post S') (fun (S' : MST) t => va_P D vwCl (mW cI cZ h0 q S') t.heap ∧ va_D A (mW cI cZ h0 q S')) A) ([.ref h0, .int a1, .ref (q 51), .int a3] : List Value).toArray s 0 0 A) (F0 m 0 ls []) := by
    intro H locs hP hS
    refine lv_iconst (v := 0) hx hb dX12_remember_0 (by decide) ?_
    refine lv_istore (lv' := [(4, .int 0), (0, .ref h0), (1, .int a1), (2, .ref (q 51)), (3, .int a3)]) hx hb dX12_remember_1 hl (by decide) rfl (fun ls hl => ?_)
    have EX_3_142 : ∀ (S_142 : MST) (x142_1 : Int32) (H : Heap) (locs : List Loc) (ls : Array Slot), (vp_in x142_1 8 ∧ (vp_in x142_1 8 ∧ (∀ S2 : MST, S2 = ms S_142 16 (upd (S_142 16) (x142_1 : Int32).toNatClampNeg ((S_142 16 (x142_1 : Int32).toNatClampNeg) + 1)) → (Post S2)))) → va_P D vwCl (mW cI cZ h0 q S_142) H → va_D A (mW cI cZ h0 q S_142) → va_S A s.heap H locs → lv_has ls 6 [(0, .ref h0), (1, .int x142_1)] → W p l e (headSpec zw_zd_X12_remember_f ({ frames := 0, cells := 0, slots := 0, locals := 0 })).room s m ([.ref h0, .int a1, .ref (q 51), .int a3] : List Value).toArray below meth c H locs 0 0 (MQ below (va_Qv (fun S' => Post S') (fun (S' : MST) t => va_P D vwCl (mW cI cZ h0 q S') t.heap ∧ va_D A (mW cI cZ h0 q S')) A) ([.ref h0, .int a1, .ref (q 51), .int a3] : List Value).toArray s 0 0 A) (F0 m 142 ls []) := by
      intro S_142 x142_1 H locs ls h hP hD hS hl
      refine lv_aload_n hx hb dX12_remember_142 rfl (lv_at hl 0 rfl) ?_
      refine va_get (D := D) (ci := 12) (v := .ref (q 16)) (C := RX12) (T := TX12) (N := 52) hx hb hts (fun _ h => List.mem_cons_of_mem _ (List.mem_append_right _ h)) hown hK hP 0 rfl rfl 16 (by decide) (hts (.fieldLink RX12 53 "TemplateForgeModel" "counted" "[I") (List.mem_of_getElem? (i := 1) rfl)) (fun _ h9 => h9) rfl dX12_remember_143 ?_
      refine lv_iload_n hx hb dX12_remember_146 rfl (lv_at hl 1 rfl) ?_
      refine lv_dup2_11 hx hb dX12_remember_147 rfl rfl ?_
      have hin_1 := h.1
      have h := h.2
      refine va_iald hx hb hK hP 15 0 rfl rfl hin_1 dX12_remember_148 ?_
      refine lv_iconst (v := 1) hx hb dX12_remember_149 (by decide) ?_
      refine lv_iadd hx hb dX12_remember_150 ?_
      have hin_2 := h.1
      have h := h.2
      refine va_iast hx hb hK hP hD hS 15 0 rfl rfl hin_2 dX12_remember_151 (fun H locs hP hD hS => ?_)
      obtain ⟨S2, eS2⟩ : ∃ z, z = ms S_142 16 (upd (S_142 16) (x142_1 : Int32).toNatClampNeg ((S_142 16 (x142_1 : Int32).toNatClampNeg) + 1)) := ⟨_, rfl⟩
      have hP : va_P D vwCl (mW cI cZ h0 q S2) H := by rw [eS2]; exact hP
      have hD : va_D A (mW cI cZ h0 q S2) := by rw [eS2]; exact hD
      have h := h S2 eS2
      exact W.vret hx hb hr (fun t ht hW => ⟨⟨S2, rfl, h, by rw [ht]; exact hP, hD⟩, hS.F ht⟩) hS.2.2 dX12_remember_152
    have LP_3 : ∀ (n_3 : Nat), ∀ (S_3 : MST) (x3_1 : Int32) (x3_3 : Int32) (x3_4 : Int32) (H : Heap) (locs : List Loc) (ls : Array Slot), wl_X12_remember_f_3 (fun S_142 x142_1 => vp_in x142_1 8 ∧ (vp_in x142_1 8 ∧ (∀ S2 : MST, S2 = ms S_142 16 (upd (S_142 16) (x142_1 : Int32).toNatClampNeg ((S_142 16 (x142_1 : Int32).toNatClampNeg) + 1)) → (Post S2)))) Post n_3 S_3 x3_1 x3_3 x3_4 → va_P D vwCl (mW cI cZ h0 q S_3) H → va_D A (mW cI cZ h0 q S_3) → va_S A s.heap H locs → lv_has ls 6 [(0, .ref h0), (1, .int x3_1), (2, .ref (q 51)), (3, .int x3_3), (4, .int x3_4)] → W p l e (headSpec zw_zd_X12_remember_f ({ frames := 0, cells := 0, slots := 0, locals := 0 })).room s m ([.ref h0, .int a1, .ref (q 51), .int a3] : List Value).toArray below meth c H locs 0 0 (MQ below (va_Qv (fun S' => Post S') (fun (S' : MST) t => va_P D vwCl (mW cI cZ h0 q S') t.heap ∧ va_D A (mW cI cZ h0 q S')) A) ([.ref h0, .int a1, .ref (q 51), .int a3] : List Value).toArray s 0 0 A) (F0 m 3 ls []) := by
      intro n_3
      induction n_3 with
      | zero =>
        intro S_3 x3_1 x3_3 x3_4 H locs ls h hP hD hS hl
        exact False.elim h
      | succ n_3 ih_3 =>
        intro S_3 x3_1 x3_3 x3_4 H locs ls h hP hD hS hl
        unfold wl_X12_remember_f_3 at h
        refine lv_iload hx hb dX12_remember_3 (lv_at hl 4 rfl) ?_
        refine lv_bipush (v := 11) hx hb dX12_remember_5 (by decide) ?_
        refine lv_icmp_ge (tgt := 142) hx hb dX12_remember_7 (by decide) (fun c_3 => ?_) (fun c_3 => ?_)
        · have h := h.1 c_3
          exact EX_3_142  S_3 x3_1 H locs _ h hP hD hS (lv_sub hl [0, 1] rfl)
        · have h := h.2 c_3
          refine lv_iload hx hb dX12_remember_10 (lv_at hl 4 rfl) ?_
          refine lv_iconst (v := 3) hx hb dX12_remember_12 (by decide) ?_
          refine lv_icmp_ge (tgt := 40) hx hb dX12_remember_13 (by decide) (fun c_4 => ?_) (fun c_4 => ?_)
          · have h := h.1 c_4
            refine lv_aload_n hx hb dX12_remember_40 rfl (lv_at hl 0 rfl) ?_
            refine va_get (D := D) (ci := 12) (v := .ref (q 12)) (C := RX12) (T := TX12) (N := 52) hx hb hts (fun _ h => List.mem_cons_of_mem _ (List.mem_append_right _ h)) hown hK hP 0 rfl rfl 12 (by decide) (hts (.fieldLink RX12 41 "TemplateForgeModel" "fields" "[I") (List.mem_of_getElem? (i := 2) rfl)) (fun _ h9 => h9) rfl dX12_remember_41 ?_
            refine lv_iload hx hb dX12_remember_44 (lv_at hl 4 rfl) ?_
            refine lv_iconst (v := 3) hx hb dX12_remember_46 (by decide) ?_
            refine lv_isub hx hb dX12_remember_47 ?_
            have hin_5 := h.1
            have h := h.2
            refine va_iald hx hb hK hP 11 0 rfl rfl hin_5 dX12_remember_48 ?_
            refine lv_istore (lv' := [(5, .int (S_3 12 (x3_4 - 3 : Int32).toNatClampNeg)), (0, .ref h0), (1, .int x3_1), (2, .ref (q 51)), (3, .int x3_3), (4, .int x3_4)]) hx hb dX12_remember_49 hl (by decide) rfl (fun ls hl => ?_)
            refine lv_aload_n hx hb dX12_remember_51 rfl (lv_at hl 1 rfl) ?_
            refine va_get (D := D) (ci := 12) (v := .ref (q 16)) (C := RX12) (T := TX12) (N := 52) hx hb hts (fun _ h => List.mem_cons_of_mem _ (List.mem_append_right _ h)) hown hK hP 0 rfl rfl 16 (by decide) (hts (.fieldLink RX12 53 "TemplateForgeModel" "counted" "[I") (List.mem_of_getElem? (i := 1) rfl)) (fun _ h9 => h9) rfl dX12_remember_52 ?_
            refine lv_iload_n hx hb dX12_remember_55 rfl (lv_at hl 2 rfl) ?_
            have hin_6 := h.1
            have h := h.2
            refine va_iald hx hb hK hP 15 0 rfl rfl hin_6 dX12_remember_56 ?_
            refine lv_if_ne (tgt := 87) hx hb dX12_remember_57 (by decide) (fun c_7 => ?_) (fun c_7 => ?_)
            · have h := h.1 c_7
              refine lv_aload_n hx hb dX12_remember_87 rfl (lv_at hl 1 rfl) ?_
              refine va_get (D := D) (ci := 12) (v := .ref (q 21)) (C := RX12) (T := TX12) (N := 52) hx hb hts (fun _ h => List.mem_cons_of_mem _ (List.mem_append_right _ h)) hown hK hP 0 rfl rfl 21 (by decide) (hts (.fieldLink RX12 68 "TemplateForgeModel" "isLike" "[Z") (List.mem_of_getElem? (i := 3) rfl)) (fun _ h9 => h9) rfl dX12_remember_88 ?_
              refine lv_bipush (v := 11) hx hb dX12_remember_91 (by decide) ?_
              refine lv_iload_n hx hb dX12_remember_93 rfl (lv_at hl 2 rfl) ?_
              refine lv_imul hx hb dX12_remember_94 ?_
              refine lv_iload hx hb dX12_remember_95 (lv_at hl 5 rfl) ?_
              refine lv_iadd hx hb dX12_remember_97 ?_
              refine lv_aload_n hx hb dX12_remember_98 rfl (lv_at hl 1 rfl) ?_
              refine va_get (D := D) (ci := 12) (v := .ref (q 21)) (C := RX12) (T := TX12) (N := 52) hx hb hts (fun _ h => List.mem_cons_of_mem _ (List.mem_append_right _ h)) hown hK hP 0 rfl rfl 21 (by decide) (hts (.fieldLink RX12 68 "TemplateForgeModel" "isLike" "[Z") (List.mem_of_getElem? (i := 3) rfl)) (fun _ h9 => h9) rfl dX12_remember_99 ?_
              refine lv_bipush (v := 11) hx hb dX12_remember_102 (by decide) ?_
              refine lv_iload_n hx hb dX12_remember_104 rfl (lv_at hl 2 rfl) ?_
              refine lv_imul hx hb dX12_remember_105 ?_
              refine lv_iload hx hb dX12_remember_106 (lv_at hl 5 rfl) ?_
              refine lv_iadd hx hb dX12_remember_108 ?_
              have hin_8 := h.1
              have h := h.2
              refine va_zald hx hb hK hP 20 1 rfl rfl hin_8 dX12_remember_109 ?_
              refine lv_if_eq (tgt := 134) hx hb dX12_remember_110 (by decide) (fun c_9 => ?_) (fun c_9 => ?_)
              · have h := h.1 c_9
                refine lv_iconst (v := 0) hx hb dX12_remember_134 (by decide) ?_
                have hin_10 := h.1
                have h := h.2
                refine va_zast hx hb hK hP hD hS 20 1 rfl rfl hin_10 dX12_remember_135 (fun H locs hP hD hS => ?_)
                obtain ⟨S10, eS10⟩ : ∃ z, z = ms S_3 21 (upd (S_3 21) ((11 * x3_1) + x3_4 : Int32).toNatClampNeg (vp_nar .boolean 0)) := ⟨_, rfl⟩
                have hP : va_P D vwCl (mW cI cZ h0 q S10) H := by rw [eS10]; exact hP
                have hD : va_D A (mW cI cZ h0 q S10) := by rw [eS10]; exact hD
                have h := h S10 eS10
                refine lv_iinc (v := x3_4 + 1) (lv' := [(4, .int (x3_4 + 1)), (5, .int (S_3 12 (x3_4 - 3 : Int32).toNatClampNeg)), (0, .ref h0), (1, .int x3_1), (2, .ref (q 51)), (3, .int x3_3)]) hx hb dX12_remember_136 hl (k := 5) rfl rfl (by decide) rfl (fun ls hl => ?_)
                refine lv_goto (tgt := 3) hx hb dX12_remember_139 (by decide) ?_
                exact ih_3  S10 x3_1 x3_3 (x3_4 + 1) H locs _ h hP hD hS (lv_sub hl [2, 3, 4, 5, 0] rfl)
              · have h := h.2 c_9
                refine lv_aload_n hx hb dX12_remember_113 rfl (lv_at hl 1 rfl) ?_
                refine va_get (D := D) (ci := 12) (v := .ref (q 20)) (C := RX12) (T := TX12) (N := 52) hx hb hts (fun _ h => List.mem_cons_of_mem _ (List.mem_append_right _ h)) hown hK hP 0 rfl rfl 20 (by decide) (hts (.fieldLink RX12 65 "TemplateForgeModel" "value" "[I") (List.mem_of_getElem? (i := 4) rfl)) (fun _ h9 => h9) rfl dX12_remember_114 ?_
                refine lv_bipush (v := 11) hx hb dX12_remember_117 (by decide) ?_
                refine lv_iload_n hx hb dX12_remember_119 rfl (lv_at hl 2 rfl) ?_
                refine lv_imul hx hb dX12_remember_120 ?_
                refine lv_iload hx hb dX12_remember_121 (lv_at hl 5 rfl) ?_
                refine lv_iadd hx hb dX12_remember_123 ?_
                have hin_11 := h.1
                have h := h.2
                refine va_iald hx hb hK hP 19 0 rfl rfl hin_11 dX12_remember_124 ?_
                refine lv_iload hx hb dX12_remember_125 (lv_at hl 0 rfl) ?_
                refine lv_icmp_ne (tgt := 134) hx hb dX12_remember_127 (by decide) (fun c_12 => ?_) (fun c_12 => ?_)
                · have h := h.1 c_12
                  refine lv_iconst (v := 0) hx hb dX12_remember_134 (by decide) ?_
                  have hin_13 := h.1
                  have h := h.2
                  refine va_zast hx hb hK hP hD hS 20 1 rfl rfl hin_13 dX12_remember_135 (fun H locs hP hD hS => ?_)
                  obtain ⟨S13, eS13⟩ : ∃ z, z = ms S_3 21 (upd (S_3 21) ((11 * x3_1) + x3_4 : Int32).toNatClampNeg (vp_nar .boolean 0)) := ⟨_, rfl⟩
                  have hP : va_P D vwCl (mW cI cZ h0 q S13) H := by rw [eS13]; exact hP
                  have hD : va_D A (mW cI cZ h0 q S13) := by rw [eS13]; exact hD
                  have h := h S13 eS13
                  refine lv_iinc (v := x3_4 + 1) (lv' := [(4, .int (x3_4 + 1)), (5, .int (S_3 12 (x3_4 - 3 : Int32).toNatClampNeg)), (0, .ref h0), (1, .int x3_1), (2, .ref (q 51)), (3, .int x3_3)]) hx hb dX12_remember_136 hl (k := 5) rfl rfl (by decide) rfl (fun ls hl => ?_)
                  refine lv_goto (tgt := 3) hx hb dX12_remember_139 (by decide) ?_
                  exact ih_3  S13 x3_1 x3_3 (x3_4 + 1) H locs _ h hP hD hS (lv_sub hl [2, 3, 4, 5, 0] rfl)
                · have h := h.2 c_12
                  refine lv_iconst (v := 1) hx hb dX12_remember_130 (by decide) ?_
                  refine lv_goto (tgt := 135) hx hb dX12_remember_131 (by decide) ?_
                  have hin_14 := h.1
                  have h := h.2
                  refine va_zast hx hb hK hP hD hS 20 1 rfl rfl hin_14 dX12_remember_135 (fun H locs hP hD hS => ?_)
                  obtain ⟨S14, eS14⟩ : ∃ z, z = ms S_3 21 (upd (S_3 21) ((11 * x3_1) + x3_4 : Int32).toNatClampNeg (vp_nar .boolean 1)) := ⟨_, rfl⟩
                  have hP : va_P D vwCl (mW cI cZ h0 q S14) H := by rw [eS14]; exact hP
                  have hD : va_D A (mW cI cZ h0 q S14) := by rw [eS14]; exact hD
                  have h := h S14 eS14
                  refine lv_iinc (v := x3_4 + 1) (lv' := [(4, .int (x3_4 + 1)), (5, .int (S_3 12 (x3_4 - 3 : Int32).toNatClampNeg)), (0, .ref h0), (1, .int x3_1), (2, .ref (q 51)), (3, .int x3_3)]) hx hb dX12_remember_136 hl (k := 5) rfl rfl (by decide) rfl (fun ls hl => ?_)
                  refine lv_goto (tgt := 3) hx hb dX12_remember_139 (by decide) ?_
                  exact ih_3  S14 x3_1 x3_3 (x3_4 + 1) H locs _ h hP hD hS (lv_sub hl [2, 3, 4, 5, 0] rfl)
            · have h := h.2 c_7
              refine lv_aload_n hx hb dX12_remember_60 rfl (lv_at hl 1 rfl) ?_
              refine va_get (D := D) (ci := 12) (v := .ref (q 20)) (C := RX12) (T := TX12) (N := 52) hx hb hts (fun _ h => List.mem_cons_of_mem _ (List.mem_append_right _ h)) hown hK hP 0 rfl rfl 20 (by decide) (hts (.fieldLink RX12 65 "TemplateForgeModel" "value" "[I") (List.mem_of_getElem? (i := 4) rfl)) (fun _ h9 => h9) rfl dX12_remember_61 ?_
              refine lv_bipush (v := 11) hx hb dX12_remember_64 (by decide) ?_
              refine lv_iload_n hx hb dX12_remember_66 rfl (lv_at hl 2 rfl) ?_
              refine lv_imul hx hb dX12_remember_67 ?_
              refine lv_iload hx hb dX12_remember_68 (lv_at hl 5 rfl) ?_
              refine lv_iadd hx hb dX12_remember_70 ?_
              refine lv_iload hx hb dX12_remember_71 (lv_at hl 0 rfl) ?_
              have hin_15 := h.1
              have h := h.2
              refine va_iast hx hb hK hP hD hS 19 0 rfl rfl hin_15 dX12_remember_73 (fun H locs hP hD hS => ?_)
              obtain ⟨S15, eS15⟩ : ∃ z, z = ms S_3 20 (upd (S_3 20) ((11 * x3_1) + x3_4 : Int32).toNatClampNeg (S_3 12 (x3_4 - 3 : Int32).toNatClampNeg)) := ⟨_, rfl⟩
              have hP : va_P D vwCl (mW cI cZ h0 q S15) H := by rw [eS15]; exact hP
              have hD : va_D A (mW cI cZ h0 q S15) := by rw [eS15]; exact hD
              have h := h S15 eS15
              refine lv_aload_n hx hb dX12_remember_74 rfl (lv_at hl 1 rfl) ?_
              refine va_get (D := D) (ci := 12) (v := .ref (q 21)) (C := RX12) (T := TX12) (N := 52) hx hb hts (fun _ h => List.mem_cons_of_mem _ (List.mem_append_right _ h)) hown hK hP 0 rfl rfl 21 (by decide) (hts (.fieldLink RX12 68 "TemplateForgeModel" "isLike" "[Z") (List.mem_of_getElem? (i := 3) rfl)) (fun _ h9 => h9) rfl dX12_remember_75 ?_
              refine lv_bipush (v := 11) hx hb dX12_remember_78 (by decide) ?_
              refine lv_iload_n hx hb dX12_remember_80 rfl (lv_at hl 2 rfl) ?_
              refine lv_imul hx hb dX12_remember_81 ?_
              refine lv_iload hx hb dX12_remember_82 (lv_at hl 5 rfl) ?_
              refine lv_iadd hx hb dX12_remember_84 ?_
              refine lv_iconst (v := 1) hx hb dX12_remember_85 (by decide) ?_
              have hin_16 := h.1
              have h := h.2
              refine va_zast hx hb hK hP hD hS 20 1 rfl rfl hin_16 dX12_remember_86 (fun H locs hP hD hS => ?_)
              obtain ⟨S16, eS16⟩ : ∃ z, z = ms S15 21 (upd (S15 21) ((11 * x3_1) + x3_4 : Int32).toNatClampNeg (vp_nar .boolean 1)) := ⟨_, rfl⟩
              have hP : va_P D vwCl (mW cI cZ h0 q S16) H := by rw [eS16]; exact hP
              have hD : va_D A (mW cI cZ h0 q S16) := by rw [eS16]; exact hD
              have h := h S16 eS16
              refine lv_aload_n hx hb dX12_remember_87 rfl (lv_at hl 1 rfl) ?_
              refine va_get (D := D) (ci := 12) (v := .ref (q 21)) (C := RX12) (T := TX12) (N := 52) hx hb hts (fun _ h => List.mem_cons_of_mem _ (List.mem_append_right _ h)) hown hK hP 0 rfl rfl 21 (by decide) (hts (.fieldLink RX12 68 "TemplateForgeModel" "isLike" "[Z") (List.mem_of_getElem? (i := 3) rfl)) (fun _ h9 => h9) rfl dX12_remember_88 ?_
              refine lv_bipush (v := 11) hx hb dX12_remember_91 (by decide) ?_
              refine lv_iload_n hx hb dX12_remember_93 rfl (lv_at hl 2 rfl) ?_
              refine lv_imul hx hb dX12_remember_94 ?_
              refine lv_iload hx hb dX12_remember_95 (lv_at hl 5 rfl) ?_
              refine lv_iadd hx hb dX12_remember_97 ?_
              refine lv_aload_n hx hb dX12_remember_98 rfl (lv_at hl 1 rfl) ?_
              refine va_get (D := D) (ci := 12) (v := .ref (q 21)) (C := RX12) (T := TX12) (N := 52) hx hb hts (fun _ h => List.mem_cons_of_mem _ (List.mem_append_right _ h)) hown hK hP 0 rfl rfl 21 (by decide) (hts (.fieldLink RX12 68 "TemplateForgeModel" "isLike" "[Z") (List.mem_of_getElem? (i := 3) rfl)) (fun _ h9 => h9) rfl dX12_remember_99 ?_
              refine lv_bipush (v := 11) hx hb dX12_remember_102 (by decide) ?_
              refine lv_iload_n hx hb dX12_remember_104 rfl (lv_at hl 2 rfl) ?_
              refine lv_imul hx hb dX12_remember_105 ?_
              refine lv_iload hx hb dX12_remember_106 (lv_at hl 5 rfl) ?_
              refine lv_iadd hx hb dX12_remember_108 ?_
              have hin_17 := h.1
              have h := h.2
              refine va_zald hx hb hK hP 20 1 rfl rfl hin_17 dX12_remember_109 ?_
              refine lv_if_eq (tgt := 134) hx hb dX12_remember_110 (by decide) (fun c_18 => ?_) (fun c_18 => ?_)
              · have h := h.1 c_18
                refine lv_iconst (v := 0) hx hb dX12_remember_134 (by decide) ?_
                have hin_19 := h.1
                have h := h.2
                refine va_zast hx hb hK hP hD hS 20 1 rfl rfl hin_19 dX12_remember_135 (fun H locs hP hD hS => ?_)
                obtain ⟨S19, eS19⟩ : ∃ z, z = ms S16 21 (upd (S16 21) ((11 * x3_1) + x3_4 : Int32).toNatClampNeg (vp_nar .boolean 0)) := ⟨_, rfl⟩
                have hP : va_P D vwCl (mW cI cZ h0 q S19) H := by rw [eS19]; exact hP
                have hD : va_D A (mW cI cZ h0 q S19) := by rw [eS19]; exact hD
                have h := h S19 eS19
                refine lv_iinc (v := x3_4 + 1) (lv' := [(4, .int (x3_4 + 1)), (5, .int (S_3 12 (x3_4 - 3 : Int32).toNatClampNeg)), (0, .ref h0), (1, .int x3_1), (2, .ref (q 51)), (3, .int x3_3)]) hx hb dX12_remember_136 hl (k := 5) rfl rfl (by decide) rfl (fun ls hl => ?_)
                refine lv_goto (tgt := 3) hx hb dX12_remember_139 (by decide) ?_
                exact ih_3  S19 x3_1 x3_3 (x3_4 + 1) H locs _ h hP hD hS (lv_sub hl [2, 3, 4, 5, 0] rfl)
              · have h := h.2 c_18
                refine lv_aload_n hx hb dX12_remember_113 rfl (lv_at hl 1 rfl) ?_
                refine va_get (D := D) (ci := 12) (v := .ref (q 20)) (C := RX12) (T := TX12) (N := 52) hx hb hts (fun _ h => List.mem_cons_of_mem _ (List.mem_append_right _ h)) hown hK hP 0 rfl rfl 20 (by decide) (hts (.fieldLink RX12 65 "TemplateForgeModel" "value" "[I") (List.mem_of_getElem? (i := 4) rfl)) (fun _ h9 => h9) rfl dX12_remember_114 ?_
                refine lv_bipush (v := 11) hx hb dX12_remember_117 (by decide) ?_
                refine lv_iload_n hx hb dX12_remember_119 rfl (lv_at hl 2 rfl) ?_
                refine lv_imul hx hb dX12_remember_120 ?_
                refine lv_iload hx hb dX12_remember_121 (lv_at hl 5 rfl) ?_
                refine lv_iadd hx hb dX12_remember_123 ?_
                have hin_20 := h.1
                have h := h.2
                refine va_iald hx hb hK hP 19 0 rfl rfl hin_20 dX12_remember_124 ?_
                refine lv_iload hx hb dX12_remember_125 (lv_at hl 0 rfl) ?_
                refine lv_icmp_ne (tgt := 134) hx hb dX12_remember_127 (by decide) (fun c_21 => ?_) (fun c_21 => ?_)
                · have h := h.1 c_21
                  refine lv_iconst (v := 0) hx hb dX12_remember_134 (by decide) ?_
                  have hin_22 := h.1
                  have h := h.2
                  refine va_zast hx hb hK hP hD hS 20 1 rfl rfl hin_22 dX12_remember_135 (fun H locs hP hD hS => ?_)
                  obtain ⟨S22, eS22⟩ : ∃ z, z = ms S16 21 (upd (S16 21) ((11 * x3_1) + x3_4 : Int32).toNatClampNeg (vp_nar .boolean 0)) := ⟨_, rfl⟩
                  have hP : va_P D vwCl (mW cI cZ h0 q S22) H := by rw [eS22]; exact hP
                  have hD : va_D A (mW cI cZ h0 q S22) := by rw [eS22]; exact hD
                  have h := h S22 eS22
                  refine lv_iinc (v := x3_4 + 1) (lv' := [(4, .int (x3_4 + 1)), (5, .int (S_3 12 (x3_4 - 3 : Int32).toNatClampNeg)), (0, .ref h0), (1, .int x3_1), (2, .ref (q 51)), (3, .int x3_3)]) hx hb dX12_remember_136 hl (k := 5) rfl rfl (by decide) rfl (fun ls hl => ?_)
                  refine lv_goto (tgt := 3) hx hb dX12_remember_139 (by decide) ?_
                  exact ih_3  S22 x3_1 x3_3 (x3_4 + 1) H locs _ h hP hD hS (lv_sub hl [2, 3, 4, 5, 0] rfl)
                · have h := h.2 c_21
                  refine lv_iconst (v := 1) hx hb dX12_remember_130 (by decide) ?_
                  refine lv_goto (tgt := 135) hx hb dX12_remember_131 (by decide) ?_
                  have hin_23 := h.1
                  have h := h.2
                  refine va_zast hx hb hK hP hD hS 20 1 rfl rfl hin_23 dX12_remember_135 (fun H locs hP hD hS => ?_)
                  obtain ⟨S23, eS23⟩ : ∃ z, z = ms S16 21 (upd (S16 21) ((11 * x3_1) + x3_4 : Int32).toNatClampNeg (vp_nar .boolean 1)) := ⟨_, rfl⟩
                  have hP : va_P D vwCl (mW cI cZ h0 q S23) H := by rw [eS23]; exact hP
                  have hD : va_D A (mW cI cZ h0 q S23) := by rw [eS23]; exact hD
                  have h := h S23 eS23
                  refine lv_iinc (v := x3_4 + 1) (lv' := [(4, .int (x3_4 + 1)), (5, .int (S_3 12 (x3_4 - 3 : Int32).toNatClampNeg)), (0, .ref h0), (1, .int x3_1), (2, .ref (q 51)), (3, .int x3_3)]) hx hb dX12_remember_136 hl (k := 5) rfl rfl (by decide) rfl (fun ls hl => ?_)
                  refine lv_goto (tgt := 3) hx hb dX12_remember_139 (by decide) ?_
                  exact ih_3  S23 x3_1 x3_3 (x3_4 + 1) H locs _ h hP hD hS (lv_sub hl [2, 3, 4, 5, 0] rfl)
          · have h := h.2 c_4
            refine lv_iload hx hb dX12_remember_16 (lv_at hl 4 rfl) ?_
            refine lv_aload_n hx hb dX12_remember_18 rfl (lv_at hl 0 rfl) ?_
            refine va_get (D := D) (ci := 12) (v := .ref (q 1)) (C := RX12) (T := TX12) (N := 52) hx hb hts (fun _ h => List.mem_cons_of_mem _ (List.mem_append_right _ h)) hown hK hP 0 rfl rfl 1 (by decide) (hts (.fieldLink RX12 7 "TemplateForgeModel" "args" "[I") (List.mem_of_getElem? (i := 5) rfl)) (fun _ h9 => h9) rfl dX12_remember_19 ?_
            refine lv_iload_n hx hb dX12_remember_22 rfl (lv_at hl 1 rfl) ?_
            have hin_24 := h.1
            have h := h.2
            refine va_iald hx hb hK hP 1 0 rfl rfl hin_24 dX12_remember_23 ?_
            refine lv_icmp_ge (tgt := 36) hx hb dX12_remember_24 (by decide) (fun c_25 => ?_) (fun c_25 => ?_)
            · have h := h.1 c_25
              refine lv_iconst (v := 0) hx hb dX12_remember_36 (by decide) ?_
              refine lv_goto (tgt := 49) hx hb dX12_remember_37 (by decide) ?_
              refine lv_istore (lv' := [(5, .int 0), (0, .ref h0), (1, .int x3_1), (2, .ref (q 51)), (3, .int x3_3), (4, .int x3_4)]) hx hb dX12_remember_49 hl (by decide) rfl (fun ls hl => ?_)
              refine lv_aload_n hx hb dX12_remember_51 rfl (lv_at hl 1 rfl) ?_
              refine va_get (D := D) (ci := 12) (v := .ref (q 16)) (C := RX12) (T := TX12) (N := 52) hx hb hts (fun _ h => List.mem_cons_of_mem _ (List.mem_append_right _ h)) hown hK hP 0 rfl rfl 16 (by decide) (hts (.fieldLink RX12 53 "TemplateForgeModel" "counted" "[I") (List.mem_of_getElem? (i := 1) rfl)) (fun _ h9 => h9) rfl dX12_remember_52 ?_
              refine lv_iload_n hx hb dX12_remember_55 rfl (lv_at hl 2 rfl) ?_
              have hin_26 := h.1
              have h := h.2
              refine va_iald hx hb hK hP 15 0 rfl rfl hin_26 dX12_remember_56 ?_
              refine lv_if_ne (tgt := 87) hx hb dX12_remember_57 (by decide) (fun c_27 => ?_) (fun c_27 => ?_)
              · have h := h.1 c_27
                refine lv_aload_n hx hb dX12_remember_87 rfl (lv_at hl 1 rfl) ?_
                refine va_get (D := D) (ci := 12) (v := .ref (q 21)) (C := RX12) (T := TX12) (N := 52) hx hb hts (fun _ h => List.mem_cons_of_mem _ (List.mem_append_right _ h)) hown hK hP 0 rfl rfl 21 (by decide) (hts (.fieldLink RX12 68 "TemplateForgeModel" "isLike" "[Z") (List.mem_of_getElem? (i := 3) rfl)) (fun _ h9 => h9) rfl dX12_remember_88 ?_
                refine lv_bipush (v := 11) hx hb dX12_remember_91 (by decide) ?_
                refine lv_iload_n hx hb dX12_remember_93 rfl (lv_at hl 2 rfl) ?_
                refine lv_imul hx hb dX12_remember_94 ?_
                refine lv_iload hx hb dX12_remember_95 (lv_at hl 5 rfl) ?_
                refine lv_iadd hx hb dX12_remember_97 ?_
                refine lv_aload_n hx hb dX12_remember_98 rfl (lv_at hl 1 rfl) ?_
                refine va_get (D := D) (ci := 12) (v := .ref (q 21)) (C := RX12) (T := TX12) (N := 52) hx hb hts (fun _ h => List.mem_cons_of_mem _ (List.mem_append_right _ h)) hown hK hP 0 rfl rfl 21 (by decide) (hts (.fieldLink RX12 68 "TemplateForgeModel" "isLike" "[Z") (List.mem_of_getElem? (i := 3) rfl)) (fun _ h9 => h9) rfl dX12_remember_99 ?_
                refine lv_bipush (v := 11) hx hb dX12_remember_102 (by decide) ?_
                refine lv_iload_n hx hb dX12_remember_104 rfl (lv_at hl 2 rfl) ?_
                refine lv_imul hx hb dX12_remember_105 ?_
                refine lv_iload hx hb dX12_remember_106 (lv_at hl 5 rfl) ?_
                refine lv_iadd hx hb dX12_remember_108 ?_
                have hin_28 := h.1
                have h := h.2
                refine va_zald hx hb hK hP 20 1 rfl rfl hin_28 dX12_remember_109 ?_
                refine lv_if_eq (tgt := 134) hx hb dX12_remember_110 (by decide) (fun c_29 => ?_) (fun c_29 => ?_)
                · have h := h.1 c_29
                  refine lv_iconst (v := 0) hx hb dX12_remember_134 (by decide) ?_
                  have hin_30 := h.1
                  have h := h.2
                  refine va_zast hx hb hK hP hD hS 20 1 rfl rfl hin_30 dX12_remember_135 (fun H locs hP hD hS => ?_)
                  obtain ⟨S30, eS30⟩ : ∃ z, z = ms S_3 21 (upd (S_3 21) ((11 * x3_1) + x3_4 : Int32).toNatClampNeg (vp_nar .boolean 0)) := ⟨_, rfl⟩
                  have hP : va_P D vwCl (mW cI cZ h0 q S30) H := by rw [eS30]; exact hP
                  have hD : va_D A (mW cI cZ h0 q S30) := by rw [eS30]; exact hD
                  have h := h S30 eS30
                  refine lv_iinc (v := x3_4 + 1) (lv' := [(4, .int (x3_4 + 1)), (5, .int 0), (0, .ref h0), (1, .int x3_1), (2, .ref (q 51)), (3, .int x3_3)]) hx hb dX12_remember_136 hl (k := 5) rfl rfl (by decide) rfl (fun ls hl => ?_)
                  refine lv_goto (tgt := 3) hx hb dX12_remember_139 (by decide) ?_
                  exact ih_3  S30 x3_1 x3_3 (x3_4 + 1) H locs _ h hP hD hS (lv_sub hl [2, 3, 4, 5, 0] rfl)
                · have h := h.2 c_29
                  refine lv_aload_n hx hb dX12_remember_113 rfl (lv_at hl 1 rfl) ?_
                  refine va_get (D := D) (ci := 12) (v := .ref (q 20)) (C := RX12) (T := TX12) (N := 52) hx hb hts (fun _ h => List.mem_cons_of_mem _ (List.mem_append_right _ h)) hown hK hP 0 rfl rfl 20 (by decide) (hts (.fieldLink RX12 65 "TemplateForgeModel" "value" "[I") (List.mem_of_getElem? (i := 4) rfl)) (fun _ h9 => h9) rfl dX12_remember_114 ?_
                  refine lv_bipush (v := 11) hx hb dX12_remember_117 (by decide) ?_
                  refine lv_iload_n hx hb dX12_remember_119 rfl (lv_at hl 2 rfl) ?_
                  refine lv_imul hx hb dX12_remember_120 ?_
                  refine lv_iload hx hb dX12_remember_121 (lv_at hl 5 rfl) ?_
                  refine lv_iadd hx hb dX12_remember_123 ?_
                  have hin_31 := h.1
                  have h := h.2
                  refine va_iald hx hb hK hP 19 0 rfl rfl hin_31 dX12_remember_124 ?_
                  refine lv_iload hx hb dX12_remember_125 (lv_at hl 0 rfl) ?_
                  refine lv_icmp_ne (tgt := 134) hx hb dX12_remember_127 (by decide) (fun c_32 => ?_) (fun c_32 => ?_)
                  · have h := h.1 c_32
                    refine lv_iconst (v := 0) hx hb dX12_remember_134 (by decide) ?_
                    have hin_33 := h.1
                    have h := h.2
                    refine va_zast hx hb hK hP hD hS 20 1 rfl rfl hin_33 dX12_remember_135 (fun H locs hP hD hS => ?_)
                    obtain ⟨S33, eS33⟩ : ∃ z, z = ms S_3 21 (upd (S_3 21) ((11 * x3_1) + x3_4 : Int32).toNatClampNeg (vp_nar .boolean 0)) := ⟨_, rfl⟩
                    have hP : va_P D vwCl (mW cI cZ h0 q S33) H := by rw [eS33]; exact hP
                    have hD : va_D A (mW cI cZ h0 q S33) := by rw [eS33]; exact hD
                    have h := h S33 eS33
                    refine lv_iinc (v := x3_4 + 1) (lv' := [(4, .int (x3_4 + 1)), (5, .int 0), (0, .ref h0), (1, .int x3_1), (2, .ref (q 51)), (3, .int x3_3)]) hx hb dX12_remember_136 hl (k := 5) rfl rfl (by decide) rfl (fun ls hl => ?_)
                    refine lv_goto (tgt := 3) hx hb dX12_remember_139 (by decide) ?_
                    exact ih_3  S33 x3_1 x3_3 (x3_4 + 1) H locs _ h hP hD hS (lv_sub hl [2, 3, 4, 5, 0] rfl)
                  · have h := h.2 c_32
                    refine lv_iconst (v := 1) hx hb dX12_remember_130 (by decide) ?_
                    refine lv_goto (tgt := 135) hx hb dX12_remember_131 (by decide) ?_
                    have hin_34 := h.1
                    have h := h.2
                    refine va_zast hx hb hK hP hD hS 20 1 rfl rfl hin_34 dX12_remember_135 (fun H locs hP hD hS => ?_)
                    obtain ⟨S34, eS34⟩ : ∃ z, z = ms S_3 21 (upd (S_3 21) ((11 * x3_1) + x3_4 : Int32).toNatClampNeg (vp_nar .boolean 1)) := ⟨_, rfl⟩
                    have hP : va_P D vwCl (mW cI cZ h0 q S34) H := by rw [eS34]; exact hP
                    have hD : va_D A (mW cI cZ h0 q S34) := by rw [eS34]; exact hD
                    have h := h S34 eS34
                    refine lv_iinc (v := x3_4 + 1) (lv' := [(4, .int (x3_4 + 1)), (5, .int 0), (0, .ref h0), (1, .int x3_1), (2, .ref (q 51)), (3, .int x3_3)]) hx hb dX12_remember_136 hl (k := 5) rfl rfl (by decide) rfl (fun ls hl => ?_)
                    refine lv_goto (tgt := 3) hx hb dX12_remember_139 (by decide) ?_
                    exact ih_3  S34 x3_1 x3_3 (x3_4 + 1) H locs _ h hP hD hS (lv_sub hl [2, 3, 4, 5, 0] rfl)
              · have h := h.2 c_27
                refine lv_aload_n hx hb dX12_remember_60 rfl (lv_at hl 1 rfl) ?_
                refine va_get (D := D) (ci := 12) (v := .ref (q 20)) (C := RX12) (T := TX12) (N := 52) hx hb hts (fun _ h => List.mem_cons_of_mem _ (List.mem_append_right _ h)) hown hK hP 0 rfl rfl 20 (by decide) (hts (.fieldLink RX12 65 "TemplateForgeModel" "value" "[I") (List.mem_of_getElem? (i := 4) rfl)) (fun _ h9 => h9) rfl dX12_remember_61 ?_
                refine lv_bipush (v := 11) hx hb dX12_remember_64 (by decide) ?_
                refine lv_iload_n hx hb dX12_remember_66 rfl (lv_at hl 2 rfl) ?_
                refine lv_imul hx hb dX12_remember_67 ?_
                refine lv_iload hx hb dX12_remember_68 (lv_at hl 5 rfl) ?_
                refine lv_iadd hx hb dX12_remember_70 ?_
                refine lv_iload hx hb dX12_remember_71 (lv_at hl 0 rfl) ?_
                have hin_35 := h.1
                have h := h.2
                refine va_iast hx hb hK hP hD hS 19 0 rfl rfl hin_35 dX12_remember_73 (fun H locs hP hD hS => ?_)
                obtain ⟨S35, eS35⟩ : ∃ z, z = ms S_3 20 (upd (S_3 20) ((11 * x3_1) + x3_4 : Int32).toNatClampNeg 0) := ⟨_, rfl⟩
                have hP : va_P D vwCl (mW cI cZ h0 q S35) H := by rw [eS35]; exact hP
                have hD : va_D A (mW cI cZ h0 q S35) := by rw [eS35]; exact hD
                have h := h S35 eS35
                refine lv_aload_n hx hb dX12_remember_74 rfl (lv_at hl 1 rfl) ?_
                refine va_get (D := D) (ci := 12) (v := .ref (q 21)) (C := RX12) (T := TX12) (N := 52) hx hb hts (fun _ h => List.mem_cons_of_mem _ (List.mem_append_right _ h)) hown hK hP 0 rfl rfl 21 (by decide) (hts (.fieldLink RX12 68 "TemplateForgeModel" "isLike" "[Z") (List.mem_of_getElem? (i := 3) rfl)) (fun _ h9 => h9) rfl dX12_remember_75 ?_
                refine lv_bipush (v := 11) hx hb dX12_remember_78 (by decide) ?_
                refine lv_iload_n hx hb dX12_remember_80 rfl (lv_at hl 2 rfl) ?_
                refine lv_imul hx hb dX12_remember_81 ?_
                refine lv_iload hx hb dX12_remember_82 (lv_at hl 5 rfl) ?_
                refine lv_iadd hx hb dX12_remember_84 ?_
                refine lv_iconst (v := 1) hx hb dX12_remember_85 (by decide) ?_
                have hin_36 := h.1
                have h := h.2
                refine va_zast hx hb hK hP hD hS 20 1 rfl rfl hin_36 dX12_remember_86 (fun H locs hP hD hS => ?_)
                obtain ⟨S36, eS36⟩ : ∃ z, z = ms S35 21 (upd (S35 21) ((11 * x3_1) + x3_4 : Int32).toNatClampNeg (vp_nar .boolean 1)) := ⟨_, rfl⟩
                have hP : va_P D vwCl (mW cI cZ h0 q S36) H := by rw [eS36]; exact hP
                have hD : va_D A (mW cI cZ h0 q S36) := by rw [eS36]; exact hD
                have h := h S36 eS36
                refine lv_aload_n hx hb dX12_remember_87 rfl (lv_at hl 1 rfl) ?_
                refine va_get (D := D) (ci := 12) (v := .ref (q 21)) (C := RX12) (T := TX12) (N := 52) hx hb hts (fun _ h => List.mem_cons_of_mem _ (List.mem_append_right _ h)) hown hK hP 0 rfl rfl 21 (by decide) (hts (.fieldLink RX12 68 "TemplateForgeModel" "isLike" "[Z") (List.mem_of_getElem? (i := 3) rfl)) (fun _ h9 => h9) rfl dX12_remember_88 ?_
                refine lv_bipush (v := 11) hx hb dX12_remember_91 (by decide) ?_
                refine lv_iload_n hx hb dX12_remember_93 rfl (lv_at hl 2 rfl) ?_
                refine lv_imul hx hb dX12_remember_94 ?_
                refine lv_iload hx hb dX12_remember_95 (lv_at hl 5 rfl) ?_
                refine lv_iadd hx hb dX12_remember_97 ?_
                refine lv_aload_n hx hb dX12_remember_98 rfl (lv_at hl 1 rfl) ?_
                refine va_get (D := D) (ci := 12) (v := .ref (q 21)) (C := RX12) (T := TX12) (N := 52) hx hb hts (fun _ h => List.mem_cons_of_mem _ (List.mem_append_right _ h)) hown hK hP 0 rfl rfl 21 (by decide) (hts (.fieldLink RX12 68 "TemplateForgeModel" "isLike" "[Z") (List.mem_of_getElem? (i := 3) rfl)) (fun _ h9 => h9) rfl dX12_remember_99 ?_
                refine lv_bipush (v := 11) hx hb dX12_remember_102 (by decide) ?_
                refine lv_iload_n hx hb dX12_remember_104 rfl (lv_at hl 2 rfl) ?_
                refine lv_imul hx hb dX12_remember_105 ?_
                refine lv_iload hx hb dX12_remember_106 (lv_at hl 5 rfl) ?_
                refine lv_iadd hx hb dX12_remember_108 ?_
                have hin_37 := h.1
                have h := h.2
                refine va_zald hx hb hK hP 20 1 rfl rfl hin_37 dX12_remember_109 ?_
                refine lv_if_eq (tgt := 134) hx hb dX12_remember_110 (by decide) (fun c_38 => ?_) (fun c_38 => ?_)
                · have h := h.1 c_38
                  refine lv_iconst (v := 0) hx hb dX12_remember_134 (by decide) ?_
                  have hin_39 := h.1
                  have h := h.2
                  refine va_zast hx hb hK hP hD hS 20 1 rfl rfl hin_39 dX12_remember_135 (fun H locs hP hD hS => ?_)
                  obtain ⟨S39, eS39⟩ : ∃ z, z = ms S36 21 (upd (S36 21) ((11 * x3_1) + x3_4 : Int32).toNatClampNeg (vp_nar .boolean 0)) := ⟨_, rfl⟩
                  have hP : va_P D vwCl (mW cI cZ h0 q S39) H := by rw [eS39]; exact hP
                  have hD : va_D A (mW cI cZ h0 q S39) := by rw [eS39]; exact hD
                  have h := h S39 eS39
                  refine lv_iinc (v := x3_4 + 1) (lv' := [(4, .int (x3_4 + 1)), (5, .int 0), (0, .ref h0), (1, .int x3_1), (2, .ref (q 51)), (3, .int x3_3)]) hx hb dX12_remember_136 hl (k := 5) rfl rfl (by decide) rfl (fun ls hl => ?_)
                  refine lv_goto (tgt := 3) hx hb dX12_remember_139 (by decide) ?_
                  exact ih_3  S39 x3_1 x3_3 (x3_4 + 1) H locs _ h hP hD hS (lv_sub hl [2, 3, 4, 5, 0] rfl)
                · have h := h.2 c_38
                  refine lv_aload_n hx hb dX12_remember_113 rfl (lv_at hl 1 rfl) ?_
                  refine va_get (D := D) (ci := 12) (v := .ref (q 20)) (C := RX12) (T := TX12) (N := 52) hx hb hts (fun _ h => List.mem_cons_of_mem _ (List.mem_append_right _ h)) hown hK hP 0 rfl rfl 20 (by decide) (hts (.fieldLink RX12 65 "TemplateForgeModel" "value" "[I") (List.mem_of_getElem? (i := 4) rfl)) (fun _ h9 => h9) rfl dX12_remember_114 ?_
                  refine lv_bipush (v := 11) hx hb dX12_remember_117 (by decide) ?_
                  refine lv_iload_n hx hb dX12_remember_119 rfl (lv_at hl 2 rfl) ?_
                  refine lv_imul hx hb dX12_remember_120 ?_
                  refine lv_iload hx hb dX12_remember_121 (lv_at hl 5 rfl) ?_
                  refine lv_iadd hx hb dX12_remember_123 ?_
                  have hin_40 := h.1
                  have h := h.2
                  refine va_iald hx hb hK hP 19 0 rfl rfl hin_40 dX12_remember_124 ?_
                  refine lv_iload hx hb dX12_remember_125 (lv_at hl 0 rfl) ?_
                  refine lv_icmp_ne (tgt := 134) hx hb dX12_remember_127 (by decide) (fun c_41 => ?_) (fun c_41 => ?_)
                  · have h := h.1 c_41
                    refine lv_iconst (v := 0) hx hb dX12_remember_134 (by decide) ?_
                    have hin_42 := h.1
                    have h := h.2
                    refine va_zast hx hb hK hP hD hS 20 1 rfl rfl hin_42 dX12_remember_135 (fun H locs hP hD hS => ?_)
                    obtain ⟨S42, eS42⟩ : ∃ z, z = ms S36 21 (upd (S36 21) ((11 * x3_1) + x3_4 : Int32).toNatClampNeg (vp_nar .boolean 0)) := ⟨_, rfl⟩
                    have hP : va_P D vwCl (mW cI cZ h0 q S42) H := by rw [eS42]; exact hP
                    have hD : va_D A (mW cI cZ h0 q S42) := by rw [eS42]; exact hD
                    have h := h S42 eS42
                    refine lv_iinc (v := x3_4 + 1) (lv' := [(4, .int (x3_4 + 1)), (5, .int 0), (0, .ref h0), (1, .int x3_1), (2, .ref (q 51)), (3, .int x3_3)]) hx hb dX12_remember_136 hl (k := 5) rfl rfl (by decide) rfl (fun ls hl => ?_)
                    refine lv_goto (tgt := 3) hx hb dX12_remember_139 (by decide) ?_
                    exact ih_3  S42 x3_1 x3_3 (x3_4 + 1) H locs _ h hP hD hS (lv_sub hl [2, 3, 4, 5, 0] rfl)
                  · have h := h.2 c_41
                    refine lv_iconst (v := 1) hx hb dX12_remember_130 (by decide) ?_
                    refine lv_goto (tgt := 135) hx hb dX12_remember_131 (by decide) ?_
                    have hin_43 := h.1
                    have h := h.2
                    refine va_zast hx hb hK hP hD hS 20 1 rfl rfl hin_43 dX12_remember_135 (fun H locs hP hD hS => ?_)
                    obtain ⟨S43, eS43⟩ : ∃ z, z = ms S36 21 (upd (S36 21) ((11 * x3_1) + x3_4 : Int32).toNatClampNeg (vp_nar .boolean 1)) := ⟨_, rfl⟩
                    have hP : va_P D vwCl (mW cI cZ h0 q S43) H := by rw [eS43]; exact hP
                    have hD : va_D A (mW cI cZ h0 q S43) := by rw [eS43]; exact hD
                    have h := h S43 eS43
                    refine lv_iinc (v := x3_4 + 1) (lv' := [(4, .int (x3_4 + 1)), (5, .int 0), (0, .ref h0), (1, .int x3_1), (2, .ref (q 51)), (3, .int x3_3)]) hx hb dX12_remember_136 hl (k := 5) rfl rfl (by decide) rfl (fun ls hl => ?_)
                    refine lv_goto (tgt := 3) hx hb dX12_remember_139 (by decide) ?_
                    exact ih_3  S43 x3_1 x3_3 (x3_4 + 1) H locs _ h hP hD hS (lv_sub hl [2, 3, 4, 5, 0] rfl)
            · have h := h.2 c_25
              refine lv_aload_n hx hb dX12_remember_27 rfl (lv_at hl 2 rfl) ?_
              refine lv_iload_n hx hb dX12_remember_28 rfl (lv_at hl 3 rfl) ?_
              refine lv_iload hx hb dX12_remember_29 (lv_at hl 4 rfl) ?_
              refine lv_iadd hx hb dX12_remember_31 ?_
              have hin_44 := h.1
              have h := h.2
              refine va_iald hx hb hK hP 40 0 rfl rfl hin_44 dX12_remember_32 ?_
              refine lv_goto (tgt := 49) hx hb dX12_remember_33 (by decide) ?_
              refine lv_istore (lv' := [(5, .int (S_3 51 (x3_3 + x3_4 : Int32).toNatClampNeg)), (0, .ref h0), (1, .int x3_1), (2, .ref (q 51)), (3, .int x3_3), (4, .int x3_4)]) hx hb dX12_remember_49 hl (by decide) rfl (fun ls hl => ?_)
              refine lv_aload_n hx hb dX12_remember_51 rfl (lv_at hl 1 rfl) ?_
              refine va_get (D := D) (ci := 12) (v := .ref (q 16)) (C := RX12) (T := TX12) (N := 52) hx hb hts (fun _ h => List.mem_cons_of_mem _ (List.mem_append_right _ h)) hown hK hP 0 rfl rfl 16 (by decide) (hts (.fieldLink RX12 53 "TemplateForgeModel" "counted" "[I") (List.mem_of_getElem? (i := 1) rfl)) (fun _ h9 => h9) rfl dX12_remember_52 ?_
              refine lv_iload_n hx hb dX12_remember_55 rfl (lv_at hl 2 rfl) ?_
              have hin_45 := h.1
              have h := h.2
              refine va_iald hx hb hK hP 15 0 rfl rfl hin_45 dX12_remember_56 ?_
              refine lv_if_ne (tgt := 87) hx hb dX12_remember_57 (by decide) (fun c_46 => ?_) (fun c_46 => ?_)
              · have h := h.1 c_46
                refine lv_aload_n hx hb dX12_remember_87 rfl (lv_at hl 1 rfl) ?_
                refine va_get (D := D) (ci := 12) (v := .ref (q 21)) (C := RX12) (T := TX12) (N := 52) hx hb hts (fun _ h => List.mem_cons_of_mem _ (List.mem_append_right _ h)) hown hK hP 0 rfl rfl 21 (by decide) (hts (.fieldLink RX12 68 "TemplateForgeModel" "isLike" "[Z") (List.mem_of_getElem? (i := 3) rfl)) (fun _ h9 => h9) rfl dX12_remember_88 ?_
                refine lv_bipush (v := 11) hx hb dX12_remember_91 (by decide) ?_
                refine lv_iload_n hx hb dX12_remember_93 rfl (lv_at hl 2 rfl) ?_
                refine lv_imul hx hb dX12_remember_94 ?_
                refine lv_iload hx hb dX12_remember_95 (lv_at hl 5 rfl) ?_
                refine lv_iadd hx hb dX12_remember_97 ?_
                refine lv_aload_n hx hb dX12_remember_98 rfl (lv_at hl 1 rfl) ?_
                refine va_get (D := D) (ci := 12) (v := .ref (q 21)) (C := RX12) (T := TX12) (N := 52) hx hb hts (fun _ h => List.mem_cons_of_mem _ (List.mem_append_right _ h)) hown hK hP 0 rfl rfl 21 (by decide) (hts (.fieldLink RX12 68 "TemplateForgeModel" "isLike" "[Z") (List.mem_of_getElem? (i := 3) rfl)) (fun _ h9 => h9) rfl dX12_remember_99 ?_
                refine lv_bipush (v := 11) hx hb dX12_remember_102 (by decide) ?_
                refine lv_iload_n hx hb dX12_remember_104 rfl (lv_at hl 2 rfl) ?_
                refine lv_imul hx hb dX12_remember_105 ?_
                refine lv_iload hx hb dX12_remember_106 (lv_at hl 5 rfl) ?_
                refine lv_iadd hx hb dX12_remember_108 ?_
                have hin_47 := h.1
                have h := h.2
                refine va_zald hx hb hK hP 20 1 rfl rfl hin_47 dX12_remember_109 ?_
                refine lv_if_eq (tgt := 134) hx hb dX12_remember_110 (by decide) (fun c_48 => ?_) (fun c_48 => ?_)
                · have h := h.1 c_48
                  refine lv_iconst (v := 0) hx hb dX12_remember_134 (by decide) ?_
                  have hin_49 := h.1
                  have h := h.2
                  refine va_zast hx hb hK hP hD hS 20 1 rfl rfl hin_49 dX12_remember_135 (fun H locs hP hD hS => ?_)
                  obtain ⟨S49, eS49⟩ : ∃ z, z = ms S_3 21 (upd (S_3 21) ((11 * x3_1) + x3_4 : Int32).toNatClampNeg (vp_nar .boolean 0)) := ⟨_, rfl⟩
                  have hP : va_P D vwCl (mW cI cZ h0 q S49) H := by rw [eS49]; exact hP
                  have hD : va_D A (mW cI cZ h0 q S49) := by rw [eS49]; exact hD
                  have h := h S49 eS49
                  refine lv_iinc (v := x3_4 + 1) (lv' := [(4, .int (x3_4 + 1)), (5, .int (S_3 51 (x3_3 + x3_4 : Int32).toNatClampNeg)), (0, .ref h0), (1, .int x3_1), (2, .ref (q 51)), (3, .int x3_3)]) hx hb dX12_remember_136 hl (k := 5) rfl rfl (by decide) rfl (fun ls hl => ?_)
                  refine lv_goto (tgt := 3) hx hb dX12_remember_139 (by decide) ?_
                  exact ih_3  S49 x3_1 x3_3 (x3_4 + 1) H locs _ h hP hD hS (lv_sub hl [2, 3, 4, 5, 0] rfl)
                · have h := h.2 c_48
                  refine lv_aload_n hx hb dX12_remember_113 rfl (lv_at hl 1 rfl) ?_
                  refine va_get (D := D) (ci := 12) (v := .ref (q 20)) (C := RX12) (T := TX12) (N := 52) hx hb hts (fun _ h => List.mem_cons_of_mem _ (List.mem_append_right _ h)) hown hK hP 0 rfl rfl 20 (by decide) (hts (.fieldLink RX12 65 "TemplateForgeModel" "value" "[I") (List.mem_of_getElem? (i := 4) rfl)) (fun _ h9 => h9) rfl dX12_remember_114 ?_
                  refine lv_bipush (v := 11) hx hb dX12_remember_117 (by decide) ?_
                  refine lv_iload_n hx hb dX12_remember_119 rfl (lv_at hl 2 rfl) ?_
                  refine lv_imul hx hb dX12_remember_120 ?_
                  refine lv_iload hx hb dX12_remember_121 (lv_at hl 5 rfl) ?_
                  refine lv_iadd hx hb dX12_remember_123 ?_
                  have hin_50 := h.1
                  have h := h.2
                  refine va_iald hx hb hK hP 19 0 rfl rfl hin_50 dX12_remember_124 ?_
                  refine lv_iload hx hb dX12_remember_125 (lv_at hl 0 rfl) ?_
                  refine lv_icmp_ne (tgt := 134) hx hb dX12_remember_127 (by decide) (fun c_51 => ?_) (fun c_51 => ?_)
                  · have h := h.1 c_51
                    refine lv_iconst (v := 0) hx hb dX12_remember_134 (by decide) ?_
                    have hin_52 := h.1
                    have h := h.2
                    refine va_zast hx hb hK hP hD hS 20 1 rfl rfl hin_52 dX12_remember_135 (fun H locs hP hD hS => ?_)
                    obtain ⟨S52, eS52⟩ : ∃ z, z = ms S_3 21 (upd (S_3 21) ((11 * x3_1) + x3_4 : Int32).toNatClampNeg (vp_nar .boolean 0)) := ⟨_, rfl⟩
                    have hP : va_P D vwCl (mW cI cZ h0 q S52) H := by rw [eS52]; exact hP
                    have hD : va_D A (mW cI cZ h0 q S52) := by rw [eS52]; exact hD
                    have h := h S52 eS52
                    refine lv_iinc (v := x3_4 + 1) (lv' := [(4, .int (x3_4 + 1)), (5, .int (S_3 51 (x3_3 + x3_4 : Int32).toNatClampNeg)), (0, .ref h0), (1, .int x3_1), (2, .ref (q 51)), (3, .int x3_3)]) hx hb dX12_remember_136 hl (k := 5) rfl rfl (by decide) rfl (fun ls hl => ?_)
                    refine lv_goto (tgt := 3) hx hb dX12_remember_139 (by decide) ?_
                    exact ih_3  S52 x3_1 x3_3 (x3_4 + 1) H locs _ h hP hD hS (lv_sub hl [2, 3, 4, 5, 0] rfl)
                  · have h := h.2 c_51
                    refine lv_iconst (v := 1) hx hb dX12_remember_130 (by decide) ?_
                    refine lv_goto (tgt := 135) hx hb dX12_remember_131 (by decide) ?_
                    have hin_53 := h.1
                    have h := h.2
                    refine va_zast hx hb hK hP hD hS 20 1 rfl rfl hin_53 dX12_remember_135 (fun H locs hP hD hS => ?_)
                    obtain ⟨S53, eS53⟩ : ∃ z, z = ms S_3 21 (upd (S_3 21) ((11 * x3_1) + x3_4 : Int32).toNatClampNeg (vp_nar .boolean 1)) := ⟨_, rfl⟩
                    have hP : va_P D vwCl (mW cI cZ h0 q S53) H := by rw [eS53]; exact hP
                    have hD : va_D A (mW cI cZ h0 q S53) := by rw [eS53]; exact hD
                    have h := h S53 eS53
                    refine lv_iinc (v := x3_4 + 1) (lv' := [(4, .int (x3_4 + 1)), (5, .int (S_3 51 (x3_3 + x3_4 : Int32).toNatClampNeg)), (0, .ref h0), (1, .int x3_1), (2, .ref (q 51)), (3, .int x3_3)]) hx hb dX12_remember_136 hl (k := 5) rfl rfl (by decide) rfl (fun ls hl => ?_)
                    refine lv_goto (tgt := 3) hx hb dX12_remember_139 (by decide) ?_
                    exact ih_3  S53 x3_1 x3_3 (x3_4 + 1) H locs _ h hP hD hS (lv_sub hl [2, 3, 4, 5, 0] rfl)
              · have h := h.2 c_46
                refine lv_aload_n hx hb dX12_remember_60 rfl (lv_at hl 1 rfl) ?_
                refine va_get (D := D) (ci := 12) (v := .ref (q 20)) (C := RX12) (T := TX12) (N := 52) hx hb hts (fun _ h => List.mem_cons_of_mem _ (List.mem_append_right _ h)) hown hK hP 0 rfl rfl 20 (by decide) (hts (.fieldLink RX12 65 "TemplateForgeModel" "value" "[I") (List.mem_of_getElem? (i := 4) rfl)) (fun _ h9 => h9) rfl dX12_remember_61 ?_
                refine lv_bipush (v := 11) hx hb dX12_remember_64 (by decide) ?_
                refine lv_iload_n hx hb dX12_remember_66 rfl (lv_at hl 2 rfl) ?_
                refine lv_imul hx hb dX12_remember_67 ?_
                refine lv_iload hx hb dX12_remember_68 (lv_at hl 5 rfl) ?_
                refine lv_iadd hx hb dX12_remember_70 ?_
                refine lv_iload hx hb dX12_remember_71 (lv_at hl 0 rfl) ?_
                have hin_54 := h.1
                have h := h.2
                refine va_iast hx hb hK hP hD hS 19 0 rfl rfl hin_54 dX12_remember_73 (fun H locs hP hD hS => ?_)
                obtain ⟨S54, eS54⟩ : ∃ z, z = ms S_3 20 (upd (S_3 20) ((11 * x3_1) + x3_4 : Int32).toNatClampNeg (S_3 51 (x3_3 + x3_4 : Int32).toNatClampNeg)) := ⟨_, rfl⟩
                have hP : va_P D vwCl (mW cI cZ h0 q S54) H := by rw [eS54]; exact hP
                have hD : va_D A (mW cI cZ h0 q S54) := by rw [eS54]; exact hD
                have h := h S54 eS54
                refine lv_aload_n hx hb dX12_remember_74 rfl (lv_at hl 1 rfl) ?_
                refine va_get (D := D) (ci := 12) (v := .ref (q 21)) (C := RX12) (T := TX12) (N := 52) hx hb hts (fun _ h => List.mem_cons_of_mem _ (List.mem_append_right _ h)) hown hK hP 0 rfl rfl 21 (by decide) (hts (.fieldLink RX12 68 "TemplateForgeModel" "isLike" "[Z") (List.mem_of_getElem? (i := 3) rfl)) (fun _ h9 => h9) rfl dX12_remember_75 ?_
                refine lv_bipush (v := 11) hx hb dX12_remember_78 (by decide) ?_
                refine lv_iload_n hx hb dX12_remember_80 rfl (lv_at hl 2 rfl) ?_
                refine lv_imul hx hb dX12_remember_81 ?_
                refine lv_iload hx hb dX12_remember_82 (lv_at hl 5 rfl) ?_
                refine lv_iadd hx hb dX12_remember_84 ?_
                refine lv_iconst (v := 1) hx hb dX12_remember_85 (by decide) ?_
                have hin_55 := h.1
                have h := h.2
                refine va_zast hx hb hK hP hD hS 20 1 rfl rfl hin_55 dX12_remember_86 (fun H locs hP hD hS => ?_)
                obtain ⟨S55, eS55⟩ : ∃ z, z = ms S54 21 (upd (S54 21) ((11 * x3_1) + x3_4 : Int32).toNatClampNeg (vp_nar .boolean 1)) := ⟨_, rfl⟩
                have hP : va_P D vwCl (mW cI cZ h0 q S55) H := by rw [eS55]; exact hP
                have hD : va_D A (mW cI cZ h0 q S55) := by rw [eS55]; exact hD
                have h := h S55 eS55
                refine lv_aload_n hx hb dX12_remember_87 rfl (lv_at hl 1 rfl) ?_
                refine va_get (D := D) (ci := 12) (v := .ref (q 21)) (C := RX12) (T := TX12) (N := 52) hx hb hts (fun _ h => List.mem_cons_of_mem _ (List.mem_append_right _ h)) hown hK hP 0 rfl rfl 21 (by decide) (hts (.fieldLink RX12 68 "TemplateForgeModel" "isLike" "[Z") (List.mem_of_getElem? (i := 3) rfl)) (fun _ h9 => h9) rfl dX12_remember_88 ?_
                refine lv_bipush (v := 11) hx hb dX12_remember_91 (by decide) ?_
                refine lv_iload_n hx hb dX12_remember_93 rfl (lv_at hl 2 rfl) ?_
                refine lv_imul hx hb dX12_remember_94 ?_
                refine lv_iload hx hb dX12_remember_95 (lv_at hl 5 rfl) ?_
                refine lv_iadd hx hb dX12_remember_97 ?_
                refine lv_aload_n hx hb dX12_remember_98 rfl (lv_at hl 1 rfl) ?_
                refine va_get (D := D) (ci := 12) (v := .ref (q 21)) (C := RX12) (T := TX12) (N := 52) hx hb hts (fun _ h => List.mem_cons_of_mem _ (List.mem_append_right _ h)) hown hK hP 0 rfl rfl 21 (by decide) (hts (.fieldLink RX12 68 "TemplateForgeModel" "isLike" "[Z") (List.mem_of_getElem? (i := 3) rfl)) (fun _ h9 => h9) rfl dX12_remember_99 ?_
                refine lv_bipush (v := 11) hx hb dX12_remember_102 (by decide) ?_
                refine lv_iload_n hx hb dX12_remember_104 rfl (lv_at hl 2 rfl) ?_
                refine lv_imul hx hb dX12_remember_105 ?_
                refine lv_iload hx hb dX12_remember_106 (lv_at hl 5 rfl) ?_
                refine lv_iadd hx hb dX12_remember_108 ?_
                have hin_56 := h.1
                have h := h.2
                refine va_zald hx hb hK hP 20 1 rfl rfl hin_56 dX12_remember_109 ?_
                refine lv_if_eq (tgt := 134) hx hb dX12_remember_110 (by decide) (fun c_57 => ?_) (fun c_57 => ?_)
                · have h := h.1 c_57
                  refine lv_iconst (v := 0) hx hb dX12_remember_134 (by decide) ?_
                  have hin_58 := h.1
                  have h := h.2
                  refine va_zast hx hb hK hP hD hS 20 1 rfl rfl hin_58 dX12_remember_135 (fun H locs hP hD hS => ?_)
                  obtain ⟨S58, eS58⟩ : ∃ z, z = ms S55 21 (upd (S55 21) ((11 * x3_1) + x3_4 : Int32).toNatClampNeg (vp_nar .boolean 0)) := ⟨_, rfl⟩
                  have hP : va_P D vwCl (mW cI cZ h0 q S58) H := by rw [eS58]; exact hP
                  have hD : va_D A (mW cI cZ h0 q S58) := by rw [eS58]; exact hD
                  have h := h S58 eS58
                  refine lv_iinc (v := x3_4 + 1) (lv' := [(4, .int (x3_4 + 1)), (5, .int (S_3 51 (x3_3 + x3_4 : Int32).toNatClampNeg)), (0, .ref h0), (1, .int x3_1), (2, .ref (q 51)), (3, .int x3_3)]) hx hb dX12_remember_136 hl (k := 5) rfl rfl (by decide) rfl (fun ls hl => ?_)
                  refine lv_goto (tgt := 3) hx hb dX12_remember_139 (by decide) ?_
                  exact ih_3  S58 x3_1 x3_3 (x3_4 + 1) H locs _ h hP hD hS (lv_sub hl [2, 3, 4, 5, 0] rfl)
                · have h := h.2 c_57
                  refine lv_aload_n hx hb dX12_remember_113 rfl (lv_at hl 1 rfl) ?_
                  refine va_get (D := D) (ci := 12) (v := .ref (q 20)) (C := RX12) (T := TX12) (N := 52) hx hb hts (fun _ h => List.mem_cons_of_mem _ (List.mem_append_right _ h)) hown hK hP 0 rfl rfl 20 (by decide) (hts (.fieldLink RX12 65 "TemplateForgeModel" "value" "[I") (List.mem_of_getElem? (i := 4) rfl)) (fun _ h9 => h9) rfl dX12_remember_114 ?_
                  refine lv_bipush (v := 11) hx hb dX12_remember_117 (by decide) ?_
                  refine lv_iload_n hx hb dX12_remember_119 rfl (lv_at hl 2 rfl) ?_
                  refine lv_imul hx hb dX12_remember_120 ?_
                  refine lv_iload hx hb dX12_remember_121 (lv_at hl 5 rfl) ?_
                  refine lv_iadd hx hb dX12_remember_123 ?_
                  have hin_59 := h.1
                  have h := h.2
                  refine va_iald hx hb hK hP 19 0 rfl rfl hin_59 dX12_remember_124 ?_
                  refine lv_iload hx hb dX12_remember_125 (lv_at hl 0 rfl) ?_
                  refine lv_icmp_ne (tgt := 134) hx hb dX12_remember_127 (by decide) (fun c_60 => ?_) (fun c_60 => ?_)
                  · have h := h.1 c_60
                    refine lv_iconst (v := 0) hx hb dX12_remember_134 (by decide) ?_
                    have hin_61 := h.1
                    have h := h.2
                    refine va_zast hx hb hK hP hD hS 20 1 rfl rfl hin_61 dX12_remember_135 (fun H locs hP hD hS => ?_)
                    obtain ⟨S61, eS61⟩ : ∃ z, z = ms S55 21 (upd (S55 21) ((11 * x3_1) + x3_4 : Int32).toNatClampNeg (vp_nar .boolean 0)) := ⟨_, rfl⟩
                    have hP : va_P D vwCl (mW cI cZ h0 q S61) H := by rw [eS61]; exact hP
                    have hD : va_D A (mW cI cZ h0 q S61) := by rw [eS61]; exact hD
                    have h := h S61 eS61
                    refine lv_iinc (v := x3_4 + 1) (lv' := [(4, .int (x3_4 + 1)), (5, .int (S_3 51 (x3_3 + x3_4 : Int32).toNatClampNeg)), (0, .ref h0), (1, .int x3_1), (2, .ref (q 51)), (3, .int x3_3)]) hx hb dX12_remember_136 hl (k := 5) rfl rfl (by decide) rfl (fun ls hl => ?_)
                    refine lv_goto (tgt := 3) hx hb dX12_remember_139 (by decide) ?_
                    exact ih_3  S61 x3_1 x3_3 (x3_4 + 1) H locs _ h hP hD hS (lv_sub hl [2, 3, 4, 5, 0] rfl)
                  · have h := h.2 c_60
                    refine lv_iconst (v := 1) hx hb dX12_remember_130 (by decide) ?_
                    refine lv_goto (tgt := 135) hx hb dX12_remember_131 (by decide) ?_
                    have hin_62 := h.1
                    have h := h.2
                    refine va_zast hx hb hK hP hD hS 20 1 rfl rfl hin_62 dX12_remember_135 (fun H locs hP hD hS => ?_)
                    obtain ⟨S62, eS62⟩ : ∃ z, z = ms S55 21 (upd (S55 21) ((11 * x3_1) + x3_4 : Int32).toNatClampNeg (vp_nar .boolean 1)) := ⟨_, rfl⟩
                    have hP : va_P D vwCl (mW cI cZ h0 q S62) H := by rw [eS62]; exact hP
                    have hD : va_D A (mW cI cZ h0 q S62) := by rw [eS62]; exact hD
                    have h := h S62 eS62
                    refine lv_iinc (v := x3_4 + 1) (lv' := [(4, .int (x3_4 + 1)), (5, .int (S_3 51 (x3_3 + x3_4 : Int32).toNatClampNeg)), (0, .ref h0), (1, .int x3_1), (2, .ref (q 51)), (3, .int x3_3)]) hx hb dX12_remember_136 hl (k := 5) rfl rfl (by decide) rfl (fun ls hl => ?_)
                    refine lv_goto (tgt := 3) hx hb dX12_remember_139 (by decide) ?_
                    exact ih_3  S62 x3_1 x3_3 (x3_4 + 1) H locs _ h hP hD hS (lv_sub hl [2, 3, 4, 5, 0] rfl)
    obtain ⟨n_3, h⟩ := h
    exact LP_3 n_3 S a1 a3 0 H locs _ h hP hD hS (lv_sub hl [1, 2, 3, 4, 0] rfl)
  exact key _ _ hP va_S.rf
