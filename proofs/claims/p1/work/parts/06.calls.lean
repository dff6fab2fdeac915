theorem z_r4 {r : Int32} (h1 : ¬ r < 0) (h2 : r < 4) : ∃ j : Nat, j < 4 ∧ r = nI j := by
  rw [Int32.lt_iff_toInt_lt] at h1 h2
  have h0 : (0 : Int32).toInt = 0 := by decide
  have h4 : (4 : Int32).toInt = 4 := by decide
  have e : ∀ c : Int32, r.toInt = c.toInt → r = c := fun c hc => Int32.toInt.inj hc
  rcases (show r.toInt = 0 ∨ r.toInt = 1 ∨ r.toInt = 2 ∨ r.toInt = 3 by omega) with h | h | h | h
  · exact ⟨0, by omega, e _ (by rw [h]; decide)⟩
  · exact ⟨1, by omega, e _ (by rw [h]; decide)⟩
  · exact ⟨2, by omega, e _ (by rw [h]; decide)⟩
  · exact ⟨3, by omega, e _ (by rw [h]; decide)⟩
theorem z_20 {j : Nat} (hj : j < 4) : (20 : Int32) * nI j = nI (20 * j) := by
  rcases (show j = 0 ∨ j = 1 ∨ j = 2 ∨ j = 3 by omega) with rfl | rfl | rfl | rfl <;> decide
theorem z_20b {j : Nat} (hj : j < 4) : (20 : Int32) * (nI j + 1) = nI (20 * j + 20) := by
  rcases (show j = 0 ∨ j = 1 ∨ j = 2 ∨ j = 3 by omega) with rfl | rfl | rfl | rfl <;> decide
set_option maxHeartbeats 4000000 in
set_option maxRecDepth 100000 in
/-- the loop of Arrays.fill(a, from, to, v): from its head with i = j, to the return, whatever the row holds then -/
theorem zf_loop {p : Program} {l : Launch} {e : Env} {R : Room} {s : State} {m : MethodId} {args : Array Value} {below : List Frame} {meth : Method} {c : Code} {cells slots : Nat} {Q : State → Prop} {D : va_G} {cI : ClassId} {A : Nat → Prop} {tys : List (ClassId × FieldType)} {a0 n j1 : Nat} {v x1 : Int32}
    (hx : p.tables.exec = Jvm.exec) (hb : c.code = cJ7_fill_fda19) (hK : va_K D vwCl ((cI, .int) :: tys) s) (hn2 : n < 2 ^ 31) (hn : j1 ≤ n)
    (fin : ∀ (H : Heap) (locs : List Loc) (g : Nat → Int32) (ls : Array Slot), va_P D vwCl [(a0, .inl (cI, n, .inl g))] H → va_D A [(a0, .inl (cI, n, .inl g))] → va_S A s.heap H locs → W p l e R s m args below meth c H locs cells slots Q (F0 m 27 ls [])) :
    ∀ (k j : Nat), j + k = j1 → ∀ (f : Nat → Int32) (H : Heap) (locs : List Loc) (ls : Array Slot), va_P D vwCl [(a0, .inl (cI, n, .inl f))] H → va_D A [(a0, .inl (cI, n, .inl f))] → va_S A s.heap H locs → lv_has ls 5 [(4, .int (nI j)), (0, .ref a0), (1, .int x1), (2, .int (nI j1)), (3, .int v)] → W p l e R s m args below meth c H locs cells slots Q (F0 m 10 ls []) := by
  intro k
  induction k with
  | zero =>
    intro j hj f H locs ls hP hD hS hl
    refine lv_iload hx hb dJ7_fill_fda19_10 (lv_at hl 0 rfl) ?_
    refine lv_iload_n hx hb dJ7_fill_fda19_12 rfl (lv_at hl 3 rfl) ?_
    refine lv_icmp_ge (tgt := 27) hx hb dJ7_fill_fda19_13 (by decide) (fun _ => ?_) (fun c => absurd (nI_le (by omega) (by omega)) c)
    exact fin H locs f ls hP hD hS
  | succ k ih =>
    intro j hj f H locs ls hP hD hS hl
    refine lv_iload hx hb dJ7_fill_fda19_10 (lv_at hl 0 rfl) ?_
    refine lv_iload_n hx hb dJ7_fill_fda19_12 rfl (lv_at hl 3 rfl) ?_
    refine lv_icmp_ge (tgt := 27) hx hb dJ7_fill_fda19_13 (by decide) (fun c => absurd c (nI_ge (by omega) (by omega))) (fun _ => ?_)
    refine lv_aload_n hx hb dJ7_fill_fda19_16 rfl (lv_at hl 1 rfl) ?_
    refine lv_iload hx hb dJ7_fill_fda19_17 (lv_at hl 0 rfl) ?_
    refine lv_iload_n hx hb dJ7_fill_fda19_19 rfl (lv_at hl 4 rfl) ?_
    have hin : vp_in (nI j) n := vp_in_nI (by omega) (by omega)
    refine va_iast hx hb hK hP hD hS 0 0 rfl rfl hin dJ7_fill_fda19_20 (fun H locs hP hD hS => ?_)
    have hP : va_P D vwCl [(a0, .inl (cI, n, .inl (upd f (nI j).toNatClampNeg v)))] H := hP
    have hD : va_D A [(a0, .inl (cI, n, .inl (upd f (nI j).toNatClampNeg v)))] := hD
    refine lv_iinc (v := nI (j + 1)) (lv' := [(4, .int (nI (j + 1))), (0, .ref a0), (1, .int x1), (2, .int (nI j1)), (3, .int v)]) hx hb dJ7_fill_fda19_21 hl (k := 0) rfl (nI_1 j) (by decide) rfl (fun ls hl => ?_)
    refine lv_goto (tgt := 10) hx hb dJ7_fill_fda19_24 (by decide) ?_
    exact ih (j + 1) (by omega) _ H locs ls hP hD hS hl

def zw_zc_rng : List Cond := .code yJ7_rangeCheck_23922 cJ7_rangeCheck_23922 3 none :: ([])
set_option maxHeartbeats 4000000 in
set_option maxRecDepth 100000 in
theorem zc_rng (l : Launch) (D : va_G) (cI cZ cP cF : Nat) (n0 i0 i1 : Int32) (hq1 : i0 ≤ i1) (hq2 : 0 ≤ i0) (hq3 : i1 ≤ n0) : Met l yJ7_rangeCheck_23922 zw_zc_rng ({ frames := 0, cells := 0, slots := 0, locals := 0 }) (va_Pc [.int n0, .int i0, .int i1] (fun U => va_P D vwCl [] U.heap ∧ zE D cI cZ cP cF U)) (va_Sv (fun _ => True)) 0 0 (fun _ => False) := by
  refine Met.ofW (cc := cJ7_rangeCheck_23922) (maxL := 3) (ret := none) (by decide) rfl ?_
  intro p e s m args below meth c s₁ B hml hv
  obtain ⟨rfl, hP, hE⟩ := hv
  have hx := B.exec
  have hb := B.bytes
  have hr := B.returns
  have hts := atoms_spec (ws := zw_zc_rng) B.pre
  have hown : s.vm.findClass RJ7 = some m.cls := findClass_of_methodNamed B.named
  have hlocks := B.notSynchronized
  have hK := hE.k
  have hP : va_P D vwCl [] s.heap := hP
  have hl := lv_entry ([.int n0, .int i0, .int i1]) (n := 3) (Nat.le_of_ble_eq_true rfl)
  rw [lg_entry_eq]
  generalize (lg_sl ([.int n0, .int i0, .int i1]) ++ List.replicate (3 - (lg_sl ([.int n0, .int i0, .int i1])).length) Slot.unset).toArray = ls at hl ⊢
  have hl : lv_has ls 3 [(0, .int n0), (1, .int i0), (2, .int i1)] := hl
  refine lv_iload_n hx hb dJ7_rangeCheck_23922_0 rfl (lv_at hl 1 rfl) ?_
  refine lv_iload_n hx hb dJ7_rangeCheck_23922_1 rfl (lv_at hl 2 rfl) ?_
  refine lv_icmp_le (tgt := 46) hx hb dJ7_rangeCheck_23922_2 (by decide) (fun c_2 => ?_) (fun c_2 => absurd hq1 c_2)
  refine lv_iload_n hx hb dJ7_rangeCheck_23922_46 rfl (lv_at hl 1 rfl) ?_
  refine lv_if_ge (tgt := 59) hx hb dJ7_rangeCheck_23922_47 (by decide) (fun c_47 => ?_) (fun c_47 => absurd hq2 c_47)
  refine lv_iload_n hx hb dJ7_rangeCheck_23922_59 rfl (lv_at hl 2 rfl) ?_
  refine lv_iload_n hx hb dJ7_rangeCheck_23922_60 rfl (lv_at hl 0 rfl) ?_
  refine lv_icmp_le (tgt := 73) hx hb dJ7_rangeCheck_23922_61 (by decide) (fun c_61 => ?_) (fun c_61 => absurd hq3 c_61)
  exact W.vret hx hb hr (fun t ht hW => ⟨rfl, trivial, ht⟩) (fun q h => by cases h) dJ7_rangeCheck_23922_73

def zw_zc_fillR : List Cond := .code yJ7_fill_fda19 cJ7_fill_fda19 5 none :: ([.code yJ7_rangeCheck_23922 cJ7_rangeCheck_23922 3 none, .methodLink RJ7 13 yJ7_rangeCheck_23922, .static yJ7_rangeCheck_23922, .initialized RJ7])
set_option maxRecDepth 100000 in
theorem zg_zc_fillR_zc_rng : GoodIn zw_zc_fillR (va_wsS RJ7 13 yJ7_rangeCheck_23922 zw_zc_rng) := goodIn_r _ [2, 3, 4, 1] (by decide +kernel) (by decide +kernel)
set_option maxHeartbeats 4000000 in
set_option maxRecDepth 100000 in
theorem zc_fillR (l : Launch) (D : va_G) (cI cZ cP cF : Nat) (a0 n j0 j1 : Nat) (f : Nat → Int32) (sz : Nat) (hj : j0 ≤ j1) (hn : j1 ≤ n) (hn2 : n < 2 ^ 31) : Met l yJ7_fill_fda19 zw_zc_fillR ({ frames := 1, cells := 0, slots := 0, locals := 22 }) (va_Pc [.ref a0, .int (nI j0), .int (nI j1), .int 0] (fun U => U.heap.size = sz ∧ va_P D vwCl [(a0, .inl (cI, n, .inl f))] U.heap ∧ zE D cI cZ cP cF U ∧ va_D (fun _ => True) [(a0, .inl (cI, n, .inl f))])) (va_Qv (fun (_ : Unit) => True) (fun (_ : Unit) t => va_P D vwCl [] t.heap ∧ va_D (va_A [(a0, .inl (cI, n, .inl f))] sz) []) (va_A [(a0, .inl (cI, n, .inl f))] sz)) 0 0 (va_A [(a0, .inl (cI, n, .inl f))] sz) := by
  refine Met.ofW (cc := cJ7_fill_fda19) (maxL := 5) (ret := none) (by decide) rfl ?_
  intro p e s m args below meth c s₁ B hml hv
  obtain ⟨rfl, hsz, hP, hE, hD0⟩ := hv
  have hx := B.exec
  have hb := B.bytes
  have hr := B.returns
  have hts := atoms_spec (ws := zw_zc_fillR) B.pre
  have hown : s.vm.findClass RJ7 = some m.cls := findClass_of_methodNamed B.named
  have hlocks := B.notSynchronized
  have hK := hE.k
  subst hsz
  have hD := hD0.self (sz := s.heap.size)
  generalize hAe : va_A [(a0, .inl (cI, n, .inl f))] s.heap.size = A at hD ⊢
  have hA : ∀ q : Nat, s.heap.size ≤ q → A q := fun q h => by rw [← hAe]; exact Or.inr h
  have hS : va_S A s.heap s.heap [] := va_S.rf
  have hP : va_P D vwCl [(a0, .inl (cI, n, .inl f))] s.heap := hP
  have hl := lv_entry ([.ref a0, .int (nI j0), .int (nI j1), .int 0]) (n := 5) (Nat.le_of_ble_eq_true rfl)
  rw [lg_entry_eq]
  generalize (lg_sl ([.ref a0, .int (nI j0), .int (nI j1), .int 0]) ++ List.replicate (5 - (lg_sl ([.ref a0, .int (nI j0), .int (nI j1), .int 0])).length) Slot.unset).toArray = ls at hl ⊢
  have hl : lv_has ls 5 [(0, .ref a0), (1, .int (nI j0)), (2, .int (nI j1)), (3, .int 0)] := hl
  refine lv_aload_n hx hb dJ7_fill_fda19_0 rfl (lv_at hl 0 rfl) ?_
  refine va_alen hx hb hK hP 0 0 rfl rfl (v := nI n) rfl dJ7_fill_fda19_1 ?_
  refine lv_iload_n hx hb dJ7_fill_fda19_2 rfl (lv_at hl 1 rfl) ?_
  refine lv_iload_n hx hb dJ7_fill_fda19_3 rfl (lv_at hl 2 rfl) ?_
  have hPc := hP.sub (ws' := []) [] rfl
  refine va_csv (va_Run.run (va_runS (As := [.int (nI n), .int (nI j0), .int (nI j1)]) (rest := []) ⟨hx, hb, hml, hown, hts⟩ (zc_rng l D cI cZ cP cF (nI n) (nI j0) (nI j1) (nI_le hj (by omega)) (nI_pos' (by omega)) (nI_le hn hn2)) (va_cwS 3 hts zg_zc_fillR_zc_rng rfl rfl rfl (by decide +kernel) ⟨Nat.le_of_ble_eq_true rfl, Nat.le_of_ble_eq_true rfl⟩) ⟨zBR, fun U hU hW => ⟨rfl, by rw [hU]; exact hPc, hE.warm hW⟩⟩ rfl rfl hl.1 rfl (lv_room (Nat.le_of_ble_eq_true rfl)) dJ7_fill_fda19_4 ⟨Nat.le_of_ble_eq_true rfl, Nat.le_of_ble_eq_true rfl⟩)) (fun _ => ?_)
  refine lv_iload_n hx hb dJ7_fill_fda19_7 rfl (lv_at hl 1 rfl) ?_
  refine lv_istore (lv' := [(4, .int (nI j0)), (0, .ref a0), (1, .int (nI j0)), (2, .int (nI j1)), (3, .int 0)]) hx hb dJ7_fill_fda19_8 hl (by decide) rfl (fun ls hl => ?_)
  refine zf_loop hx hb hK hn2 hn (fun H locs g ls hP hD hS => ?_) (j1 - j0) j0 (by omega) f _ _ ls hP hD hS hl
  have hP9 := hP.sub (ws' := []) [] rfl
  have hD9 := hD.sub (ws' := []) [] (by decide) rfl
  exact W.vret hx hb hr (fun t ht hW => ⟨⟨(), rfl, trivial, by rw [ht]; exact hP9, hD9⟩, hS.F ht⟩) hS.2.2 dJ7_fill_fda19_27

def zw_zc_X2_renew : List Cond := .code yX2_renew cX2_renew 3 none :: ([.fieldLink RX2 15 "TemplateForge$Data" "lengths" "[I", .fieldLink RX2 18 "TemplateForge$Data" "items" "[I", .code yJ7_fill_fda19 cJ7_fill_fda19 5 none, .code yJ7_rangeCheck_23922 cJ7_rangeCheck_23922 3 none, .methodLink RJ7 13 yJ7_rangeCheck_23922, .static yJ7_rangeCheck_23922, .initialized RJ7, .methodLink RX2 27 yJ7_fill_fda19, .static yJ7_fill_fda19] ++ wsX20)
set_option maxRecDepth 100000 in
theorem zg_zc_X2_renew_zc_fillR : GoodIn zw_zc_X2_renew (va_wsS RX2 27 yJ7_fill_fda19 zw_zc_fillR) := goodIn_r _ [8, 9, 7, 3, 4, 5, 6, 7] (by decide +kernel) (by decide +kernel)
set_option maxHeartbeats 4000000 in
set_option maxRecDepth 100000 in
theorem zc_X2_renew (l : Launch) (D : va_G) (cI cZ cP cF : Nat) (h0 p1 p2 p3 : Nat) (g f3 : Nat → Int32) (r0 : Int32) (sz : Nat) : Met l yX2_renew zw_zc_X2_renew ({ frames := 2, cells := 0, slots := 0, locals := 46 }) (va_Pc [.ref h0, .int r0, .int (-1)] (fun U => U.heap.size = sz ∧ va_P D vwCl [(h0, .inr (2, [.ref p1, .ref p2, .ref p3])), (p2, .inl (cI, 4, .inl g)), (p3, .inl (cI, 80, .inl f3))] U.heap ∧ zE D cI cZ cP cF U ∧ va_D (fun _ => True) [(h0, .inr (2, [.ref p1, .ref p2, .ref p3])), (p2, .inl (cI, 4, .inl g)), (p3, .inl (cI, 80, .inl f3))])) (va_Qv (fun (_ : Unit) => True) (fun (_ : Unit) t => va_P D vwCl [] t.heap ∧ va_D (va_A [(h0, .inr (2, [.ref p1, .ref p2, .ref p3])), (p2, .inl (cI, 4, .inl g)), (p3, .inl (cI, 80, .inl f3))] sz) []) (va_A [(h0, .inr (2, [.ref p1, .ref p2, .ref p3])), (p2, .inl (cI, 4, .inl g)), (p3, .inl (cI, 80, .inl f3))] sz)) 0 0 (va_A [(h0, .inr (2, [.ref p1, .ref p2, .ref p3])), (p2, .inl (cI, 4, .inl g)), (p3, .inl (cI, 80, .inl f3))] sz) := by
  refine Met.ofW (cc := cX2_renew) (maxL := 3) (ret := none) (by decide) rfl ?_
  intro p e s m args below meth c s₁ B hml hv
  obtain ⟨rfl, hsz, hP, hE, hD0⟩ := hv
  have hx := B.exec
  have hb := B.bytes
  have hr := B.returns
  have hts := atoms_spec (ws := zw_zc_X2_renew) B.pre
  have hown : s.vm.findClass RX2 = some m.cls := findClass_of_methodNamed B.named
  have hlocks := B.notSynchronized
  have hK := hE.k
  subst hsz
  have hD := hD0.self (sz := s.heap.size)
  generalize hAe : va_A [(h0, .inr (2, [.ref p1, .ref p2, .ref p3])), (p2, .inl (cI, 4, .inl g)), (p3, .inl (cI, 80, .inl f3))] s.heap.size = A at hD ⊢
  have hA : ∀ q : Nat, s.heap.size ≤ q → A q := fun q h => by rw [← hAe]; exact Or.inr h
  have hS : va_S A s.heap s.heap [] := va_S.rf
  have hP : va_P D vwCl [(h0, .inr (2, [.ref p1, .ref p2, .ref p3])), (p2, .inl (cI, 4, .inl g)), (p3, .inl (cI, 80, .inl f3))] s.heap := hP
  have hl := lv_entry ([.ref h0, .int r0, .int (-1)]) (n := 3) (Nat.le_of_ble_eq_true rfl)
  rw [lg_entry_eq]
  generalize (lg_sl ([.ref h0, .int r0, .int (-1)]) ++ List.replicate (3 - (lg_sl ([.ref h0, .int r0, .int (-1)])).length) Slot.unset).toArray = ls at hl ⊢
  have hl : lv_has ls 3 [(0, .ref h0), (1, .int r0), (2, .int (-1))] := hl
  refine lv_iload_n hx hb dX2_renew_0 rfl (lv_at hl 1 rfl) ?_
  refine lv_if_lt (tgt := 45) hx hb dX2_renew_1 (by decide) (fun c_1 => ?_) (fun c_1 => ?_)
  · have hP9 := hP.sub (ws' := []) [] rfl
    have hD9 := hD.sub (ws' := []) [] (by decide) rfl
    refine W.widen (k := 0) (n := 0) (Nat.le_of_ble_eq_true rfl) (Nat.le_of_ble_eq_true rfl) ?_
    exact W.vret hx hb hr (fun t ht hW => ⟨⟨(), rfl, trivial, by rw [ht]; exact hP9, hD9⟩, hS.F ht⟩) hS.2.2 dX2_renew_45
  · refine lv_iload_n hx hb dX2_renew_4 rfl (lv_at hl 1 rfl) ?_
    refine lv_iconst (v := 4) hx hb dX2_renew_5 (by decide) ?_
    refine lv_icmp_ge (tgt := 45) hx hb dX2_renew_6 (by decide) (fun c_6 => ?_) (fun c_6 => ?_)
    · have hP9 := hP.sub (ws' := []) [] rfl
      have hD9 := hD.sub (ws' := []) [] (by decide) rfl
      refine W.widen (k := 0) (n := 0) (Nat.le_of_ble_eq_true rfl) (Nat.le_of_ble_eq_true rfl) ?_
      exact W.vret hx hb hr (fun t ht hW => ⟨⟨(), rfl, trivial, by rw [ht]; exact hP9, hD9⟩, hS.F ht⟩) hS.2.2 dX2_renew_45
    · refine lv_iload_n hx hb dX2_renew_9 rfl (lv_at hl 2 rfl) ?_
      refine lv_iconst (v := (-1)) hx hb dX2_renew_10 (by decide) ?_
      refine lv_icmp_lt (tgt := 45) hx hb dX2_renew_11 (by decide) (fun c => absurd c (by decide)) (fun _ => ?_)
      refine lv_iload_n hx hb dX2_renew_14 rfl (lv_at hl 2 rfl) ?_
      refine lv_bipush (v := 20) hx hb dX2_renew_15 (by decide) ?_
      refine lv_icmp_gt (tgt := 45) hx hb dX2_renew_17 (by decide) (fun c => absurd c (by decide)) (fun _ => ?_)
      refine lv_aload_n hx hb dX2_renew_20 rfl (lv_at hl 0 rfl) ?_
      refine va_get (D := D) (ci := 2) (v := .ref p2) (C := RX2) (T := TX2) (N := 3) hx hb hts (fun _ h => List.mem_cons_of_mem _ (List.mem_append_right _ h)) hown hK hP 0 rfl rfl 1 (by decide) (hts (.fieldLink RX2 15 "TemplateForge$Data" "lengths" "[I") (List.mem_of_getElem? (i := 1) rfl)) (fun _ h9 => h9) rfl dX2_renew_21 ?_
      refine lv_iload_n hx hb dX2_renew_24 rfl (lv_at hl 1 rfl) ?_
      refine lv_iload_n hx hb dX2_renew_25 rfl (lv_at hl 2 rfl) ?_
      have hin_26 : vp_in r0 4 := z_in (M := 4) (by decide) c_1 c_6
      refine va_iast hx hb hK hP hD hS 1 0 rfl rfl hin_26 dX2_renew_26 (fun H locs hP hD hS => ?_)
      have hP : va_P D vwCl [(h0, .inr (2, [.ref p1, .ref p2, .ref p3])), (p2, .inl (cI, 4, .inl (upd g (r0 : Int32).toNatClampNeg (-1)))), (p3, .inl (cI, 80, .inl f3))] H := hP
      have hD : va_D A [(h0, .inr (2, [.ref p1, .ref p2, .ref p3])), (p2, .inl (cI, 4, .inl (upd g (r0 : Int32).toNatClampNeg (-1)))), (p3, .inl (cI, 80, .inl f3))] := hD
      refine lv_aload_n hx hb dX2_renew_27 rfl (lv_at hl 0 rfl) ?_
      refine va_get (D := D) (ci := 2) (v := .ref p3) (C := RX2) (T := TX2) (N := 3) hx hb hts (fun _ h => List.mem_cons_of_mem _ (List.mem_append_right _ h)) hown hK hP 0 rfl rfl 2 (by decide) (hts (.fieldLink RX2 18 "TemplateForge$Data" "items" "[I") (List.mem_of_getElem? (i := 2) rfl)) (fun _ h9 => h9) rfl dX2_renew_28 ?_
      obtain ⟨j0, hj0, hr0⟩ := z_r4 c_1 (Int32.not_le.mp c_6)
      refine lv_bipush (v := 20) hx hb dX2_renew_31 (by decide) ?_
      refine lv_iload_n hx hb dX2_renew_33 rfl (lv_at hl 1 rfl) ?_
      refine lv_imul hx hb dX2_renew_34 ?_
      refine lv_topi (fun y_1 e_1 => ?_)
      obtain rfl : y_1 = nI (20 * j0) := by rw [e_1, hr0]; exact z_20 hj0
      refine lv_bipush (v := 20) hx hb dX2_renew_35 (by decide) ?_
      refine lv_iload_n hx hb dX2_renew_37 rfl (lv_at hl 1 rfl) ?_
      refine lv_iconst (v := 1) hx hb dX2_renew_38 (by decide) ?_
      refine lv_iadd hx hb dX2_renew_39 ?_
      refine lv_topi (fun y_2 e_2 => ?_)
      refine lv_imul hx hb dX2_renew_40 ?_
      refine lv_topi (fun y_3 e_3 => ?_)
      obtain rfl : y_3 = nI (20 * j0 + 20) := by rw [e_3, e_2, hr0]; exact z_20b hj0
      refine lv_iconst (v := 0) hx hb dX2_renew_41 (by decide) ?_
      have hPc := hP.sub (ws' := [(p3, .inl (cI, 80, .inl f3))]) [2] rfl
      have hDc := hD.sub (ws' := [(p3, .inl (cI, 80, .inl f3))]) [2] (by decide) rfl
      have hFc := va_free (wc := [(p3, .inl (cI, 80, .inl f3))]) hD hS hA [2] rfl
      refine va_callv (va_runS (As := [.ref p3, .int (nI (20 * j0)), .int (nI (20 * j0 + 20)), .int 0]) (rest := []) ⟨hx, hb, hml, hown, hts⟩ (zc_fillR l D cI cZ cP cF p3 80 (20 * j0) (20 * j0 + 20) f3 H.size (by omega) (by omega) (by decide)) (va_cwS 4 hts zg_zc_X2_renew_zc_fillR rfl rfl rfl (by decide +kernel) ⟨Nat.le_of_ble_eq_true rfl, Nat.le_of_ble_eq_true rfl⟩) ⟨zBW, fun U hU hW => ⟨rfl, by rw [hU], by rw [hU]; exact hPc, hE.warm hW, hDc.weaken (fun _ _ _ _ => trivial)⟩⟩ rfl rfl hl.1 rfl (lv_room (Nat.le_of_ble_eq_true rfl)) dX2_renew_42 ⟨Nat.le_of_ble_eq_true rfl, Nat.le_of_ble_eq_true rfl⟩) hS (fun q _ h => hFc q h) hFc (fun u t H1 locs ht hvm h_42_4 hB hz1 hk1 hS => ?_)
      obtain ⟨hP1, hD1⟩ := hB
      rw [ht] at hP1
      obtain ⟨hP, hD⟩ := va_join (wr := [(h0, .inr (2, [.ref p1, .ref p2, .ref p3])), (p2, .inl (cI, 4, .inl (upd g (r0 : Int32).toNatClampNeg (-1))))]) (w1 := []) hP hD [2] [0, 1] rfl rfl (by decide) (by decide) hk1 hFc hP1 hD1
      generalize H1 = H at hP hS ⊢
      have hP : va_P D vwCl [(h0, .inr (2, [.ref p1, .ref p2, .ref p3])), (p2, .inl (cI, 4, .inl (upd g (r0 : Int32).toNatClampNeg (-1))))] H := hP
      have hD : va_D A [(h0, .inr (2, [.ref p1, .ref p2, .ref p3])), (p2, .inl (cI, 4, .inl (upd g (r0 : Int32).toNatClampNeg (-1))))] := hD
      have hP9 := hP.sub (ws' := []) [] rfl
      have hD9 := hD.sub (ws' := []) [] (by decide) rfl
      refine W.widen (k := 0) (n := 0) (Nat.le_of_ble_eq_true rfl) (Nat.le_of_ble_eq_true rfl) ?_
      exact W.vret hx hb hr (fun t ht hW => ⟨⟨(), rfl, trivial, by rw [ht]; exact hP9, hD9⟩, hS.F ht⟩) hS.2.2 dX2_renew_45

def zw_zc_X11_method : List Cond := .code yX11_method cX11_method 3 (some .int) :: ([.fieldLink RX11 15 "TemplateForge" "book" "LTemplateForge$Book;", .code yX0_tell cX0_tell 3 (some .int), .fieldLink RX0 17 "TemplateForge$Book" "told" "I", .fieldLink RX0 11 "TemplateForge$Book" "programs" "[LTemplateForge$Program;", .classLink RX0 9 RX8, .instantiable RX8 10, .initialized RX8, .code yX8_init cX8_init 4 none, .methodLink RX8 3 objectInit, .instanceMethod objectInit, .code objectInit ⟨#[0xb1]⟩ 1 none, .classLink RX8 9 RX5, .instantiable RX5 9, .initialized RX5, .code yX5_init cX5_init 1 none, .methodLink RX5 3 objectInit, .arrayClass .int, .fieldLink RX5 9 "TemplateForge$Heat" "first" "[I", .arrayClass .boolean, .fieldLink RX5 15 "TemplateForge$Heat" "same" "[Z", .fieldLink RX5 19 "TemplateForge$Heat" "varying" "[Z", .instanceMethod yX5_init, .fieldLink RX8 12 "TemplateForge$Program" "heat" "LTemplateForge$Heat;", .fieldLink RX8 18 "TemplateForge$Program" "ops" "[I", .fieldLink RX8 22 "TemplateForge$Program" "xs" "[I", .fieldLink RX8 25 "TemplateForge$Program" "depths" "[I", .fieldLink RX8 28 "TemplateForge$Program" "deepest" "I", .fieldLink RX8 32 "TemplateForge$Program" "number" "I", .fieldLink RX8 35 "TemplateForge$Program" "args" "I", .fieldLink RX8 38 "TemplateForge$Program" "locals" "I", .instanceMethod yX8_init, .methodLink RX0 21 yX8_init, .methodLink RX11 44 yX0_tell, .instanceMethod yX0_tell, .selects RX0 yX0_tell yX0_tell, .initialized RX0] ++ wsX110 ++ wsX00 ++ wsX80 ++ wsX50)
set_option maxRecDepth 100000 in
theorem zg_zc_X11_method_zc_X0_tell : GoodIn zw_zc_X11_method (wsV RX11 44 RX0 yX0_tell zw_zc_X0_tell) := goodIn_r _ [33, 34, 35, 36, 2, 3, 4, 5, 6, 7, 8, 9, 10, 11, 12, 13, 14, 15, 16, 17, 18, 19, 20, 21, 22, 23, 24, 25, 26, 27, 28, 29, 30, 31, 32, 41, 42, 43, 44, 45, 46, 47, 48, 49, 50, 51, 52, 53, 54, 55, 56, 57, 58, 59, 60, 61] (by decide +kernel) (by decide +kernel)
set_option maxHeartbeats 4000000 in
set_option maxRecDepth 100000 in
theorem zc_X11_method (l : Launch) (D : va_G) (cI cZ cP cF : Nat) (h0 b d lo ma pr : Nat) (a0 l0 : Int32) (sz : Nat) : Met l yX11_method zw_zc_X11_method ({ frames := 4, cells := 8, slots := 232, locals := 77 }) (va_Pc [.ref h0, .int a0, .int l0] (fun U => U.heap.size = sz ∧ va_P D vwCl [(h0, .inr (11, [.ref b, .ref d, .ref lo, .ref ma])), (b, .inr (0, [.ref pr, .int 0])), (pr, .inl (cP, 8, .inr (.inr (.inr (.inr (fun _ => none))))))] U.heap ∧ zE D cI cZ cP cF U ∧ va_D (fun _ => True) [(h0, .inr (11, [.ref b, .ref d, .ref lo, .ref ma])), (b, .inr (0, [.ref pr, .int 0])), (pr, .inl (cP, 8, .inr (.inr (.inr (.inr (fun _ => none))))))])) (va_Qi (fun (r : Int32) (_ : Unit) => r = zmeth a0 l0) (fun (_ : Unit) t => va_P D vwCl [] t.heap ∧ va_D (va_A [(h0, .inr (11, [.ref b, .ref d, .ref lo, .ref ma])), (b, .inr (0, [.ref pr, .int 0])), (pr, .inl (cP, 8, .inr (.inr (.inr (.inr (fun _ => none))))))] sz) []) (va_A [(h0, .inr (11, [.ref b, .ref d, .ref lo, .ref ma])), (b, .inr (0, [.ref pr, .int 0])), (pr, .inl (cP, 8, .inr (.inr (.inr (.inr (fun _ => none))))))] sz)) 8 232 (va_A [(h0, .inr (11, [.ref b, .ref d, .ref lo, .ref ma])), (b, .inr (0, [.ref pr, .int 0])), (pr, .inl (cP, 8, .inr (.inr (.inr (.inr (fun _ => none))))))] sz) := by
  refine Met.ofW (cc := cX11_method) (maxL := 3) (ret := (some .int)) (by decide) rfl ?_
  intro p e s m args below meth c s₁ B hml hv
  obtain ⟨rfl, hsz, hP, hE, hD0⟩ := hv
  have hx := B.exec
  have hb := B.bytes
  have hr := B.returns
  have hts := atoms_spec (ws := zw_zc_X11_method) B.pre
  have hown : s.vm.findClass RX11 = some m.cls := findClass_of_methodNamed B.named
  have hlocks := B.notSynchronized
  have hK := hE.k
  subst hsz
  have hD := hD0.self (sz := s.heap.size)
  generalize hAe : va_A [(h0, .inr (11, [.ref b, .ref d, .ref lo, .ref ma])), (b, .inr (0, [.ref pr, .int 0])), (pr, .inl (cP, 8, .inr (.inr (.inr (.inr (fun _ => none))))))] s.heap.size = A at hD ⊢
  have hA : ∀ q : Nat, s.heap.size ≤ q → A q := fun q h => by rw [← hAe]; exact Or.inr h
  have hS : va_S A s.heap s.heap [] := va_S.rf
  have hP : va_P D vwCl [(h0, .inr (11, [.ref b, .ref d, .ref lo, .ref ma])), (b, .inr (0, [.ref pr, .int 0])), (pr, .inl (cP, 8, .inr (.inr (.inr (.inr (fun _ => none))))))] s.heap := hP
  have hl := lv_entry ([.ref h0, .int a0, .int l0]) (n := 3) (Nat.le_of_ble_eq_true rfl)
  rw [lg_entry_eq]
  generalize (lg_sl ([.ref h0, .int a0, .int l0]) ++ List.replicate (3 - (lg_sl ([.ref h0, .int a0, .int l0])).length) Slot.unset).toArray = ls at hl ⊢
  have hl : lv_has ls 3 [(0, .ref h0), (1, .int a0), (2, .int l0)] := hl
  refine lv_iload_n hx hb dX11_method_0 rfl (lv_at hl 1 rfl) ?_
  refine lv_if_lt (tgt := 20) hx hb dX11_method_1 (by decide) (fun c_1 => ?_) (fun c_1 => ?_)
  · refine lv_bipush (v := (-2)) hx hb dX11_method_20 (by decide) ?_
    have hP9 := hP.sub (ws' := []) [] rfl
    have hD9 := hD.sub (ws' := []) [] (by decide) rfl
    refine W.widen (k := 8) (n := 232) (Nat.le_of_ble_eq_true rfl) (Nat.le_of_ble_eq_true rfl) ?_
    exact W.iret (v := (-2)) hx hb hr (fun t ht hW => ⟨⟨(-2), (), rfl, by simp only [zmeth, c_1, if_true, if_false], by rw [ht]; exact hP9, hD9⟩, hS.F ht⟩) hS.2.2 dX11_method_22
  · refine lv_iload_n hx hb dX11_method_4 rfl (lv_at hl 1 rfl) ?_
    refine lv_iconst (v := 3) hx hb dX11_method_5 (by decide) ?_
    refine lv_icmp_gt (tgt := 20) hx hb dX11_method_6 (by decide) (fun c_6 => ?_) (fun c_6 => ?_)
    · refine lv_bipush (v := (-2)) hx hb dX11_method_20 (by decide) ?_
      have hP9 := hP.sub (ws' := []) [] rfl
      have hD9 := hD.sub (ws' := []) [] (by decide) rfl
      refine W.widen (k := 8) (n := 232) (Nat.le_of_ble_eq_true rfl) (Nat.le_of_ble_eq_true rfl) ?_
      exact W.iret (v := (-2)) hx hb hr (fun t ht hW => ⟨⟨(-2), (), rfl, by simp only [zmeth, c_1, c_6, if_true, if_false], by rw [ht]; exact hP9, hD9⟩, hS.F ht⟩) hS.2.2 dX11_method_22
    · refine lv_iload_n hx hb dX11_method_9 rfl (lv_at hl 2 rfl) ?_
      refine lv_iload_n hx hb dX11_method_10 rfl (lv_at hl 1 rfl) ?_
      refine lv_icmp_lt (tgt := 20) hx hb dX11_method_11 (by decide) (fun c_11 => ?_) (fun c_11 => ?_)
      · refine lv_bipush (v := (-2)) hx hb dX11_method_20 (by decide) ?_
        have hP9 := hP.sub (ws' := []) [] rfl
        have hD9 := hD.sub (ws' := []) [] (by decide) rfl
        refine W.widen (k := 8) (n := 232) (Nat.le_of_ble_eq_true rfl) (Nat.le_of_ble_eq_true rfl) ?_
        exact W.iret (v := (-2)) hx hb hr (fun t ht hW => ⟨⟨(-2), (), rfl, by simp only [zmeth, c_1, c_6, c_11, if_true, if_false], by rw [ht]; exact hP9, hD9⟩, hS.F ht⟩) hS.2.2 dX11_method_22
      · refine lv_iload_n hx hb dX11_method_14 rfl (lv_at hl 2 rfl) ?_
        refine lv_bipush (v := 6) hx hb dX11_method_15 (by decide) ?_
        refine lv_icmp_le (tgt := 23) hx hb dX11_method_17 (by decide) (fun c_17 => ?_) (fun c_17 => ?_)
        · refine lv_aload_n hx hb dX11_method_23 rfl (lv_at hl 0 rfl) ?_
          refine va_get (D := D) (ci := 11) (v := .ref b) (C := RX11) (T := TX11) (N := 4) hx hb hts (fun _ h => List.mem_cons_of_mem _ (List.mem_append_left _ (List.mem_append_left _ (List.mem_append_left _ (List.mem_append_right _ h))))) hown hK hP 0 rfl rfl 0 (by decide) (hts (.fieldLink RX11 15 "TemplateForge" "book" "LTemplateForge$Book;") (List.mem_of_getElem? (i := 1) rfl)) (fun _ h9 => h9) rfl dX11_method_24 ?_
          refine lv_iload_n hx hb dX11_method_27 rfl (lv_at hl 1 rfl) ?_
          refine lv_iload_n hx hb dX11_method_28 rfl (lv_at hl 2 rfl) ?_
          have hPc := hP.sub (ws' := [(b, .inr (0, [.ref pr, .int 0])), (pr, .inl (cP, 8, .inr (.inr (.inr (.inr (fun _ => none))))))]) [1, 2] rfl
          have hDc := hD.sub (ws' := [(b, .inr (0, [.ref pr, .int 0])), (pr, .inl (cP, 8, .inr (.inr (.inr (.inr (fun _ => none))))))]) [1, 2] (by decide) rfl
          have hFc := va_free (wc := [(b, .inr (0, [.ref pr, .int 0])), (pr, .inl (cP, 8, .inr (.inr (.inr (.inr (fun _ => none))))))]) hD hS hA [1, 2] rfl
          refine va_calli (va_runV (As := [.int a0, .int l0]) (rest := []) ⟨hx, hb, hml, hown, hts⟩ (zc_X0_tell l D cI cZ cP cF b pr a0 l0 s.heap.size) (cwV 2 hts zg_zc_X11_method_zc_X0_tell rfl rfl rfl (by decide +kernel) ⟨Nat.le_of_ble_eq_true rfl, Nat.le_of_ble_eq_true rfl⟩) ⟨zBW, va_recv hK hPc (ci := 0) (q0 := 0) rfl rfl, fun U hU hW => ⟨rfl, by rw [hU], by rw [hU]; exact hPc, hE.warm hW, hDc.weaken (fun _ _ _ _ => trivial)⟩⟩ rfl rfl hl.1 rfl (lv_room (Nat.le_of_ble_eq_true rfl)) dX11_method_29 ⟨Nat.le_of_ble_eq_true rfl, Nat.le_of_ble_eq_true rfl⟩) hS (fun q _ h => hFc q h) hFc (fun r_29_1 u t H1 locs ht hvm h_29_1 hB hz1 hk1 hS => ?_)
          obtain ⟨hP1, hD1⟩ := hB
          rw [ht] at hP1
          obtain ⟨hP, hD⟩ := va_join (wr := [(h0, .inr (11, [.ref b, .ref d, .ref lo, .ref ma]))]) (w1 := []) hP hD [1, 2] [0] rfl rfl (by decide) (by decide) hk1 hFc hP1 hD1
          generalize H1 = H at hP hS ⊢
          have hP : va_P D vwCl [(h0, .inr (11, [.ref b, .ref d, .ref lo, .ref ma]))] H := hP
          have hD : va_D A [(h0, .inr (11, [.ref b, .ref d, .ref lo, .ref ma]))] := hD
          obtain rfl : r_29_1 = 0 := h_29_1
          have hP9 := hP.sub (ws' := []) [] rfl
          have hD9 := hD.sub (ws' := []) [] (by decide) rfl
          refine W.widen (k := 8) (n := 232) (Nat.le_of_ble_eq_true rfl) (Nat.le_of_ble_eq_true rfl) ?_
          exact W.iret (v := 0) hx hb hr (fun t ht hW => ⟨⟨0, (), rfl, by simp only [zmeth, c_1, c_6, c_11, c_17, if_true, if_false], by rw [ht]; exact hP9, hD9⟩, hS.F ht⟩) hS.2.2 dX11_method_32
        · refine lv_bipush (v := (-2)) hx hb dX11_method_20 (by decide) ?_
          have hP9 := hP.sub (ws' := []) [] rfl
          have hD9 := hD.sub (ws' := []) [] (by decide) rfl
          refine W.widen (k := 8) (n := 232) (Nat.le_of_ble_eq_true rfl) (Nat.le_of_ble_eq_true rfl) ?_
          exact W.iret (v := (-2)) hx hb hr (fun t ht hW => ⟨⟨(-2), (), rfl, by simp only [zmeth, c_1, c_6, c_11, c_17, if_true, if_false], by rw [ht]; exact hP9, hD9⟩, hS.F ht⟩) hS.2.2 dX11_method_22

def zw_zc_X11_write : List Cond := .code yX11_write cX11_write 5 (some .int) :: ([.fieldLink RX11 15 "TemplateForge" "book" "LTemplateForge$Book;", .code yX0_at cX0_at 2 (some (.object "TemplateForge$Program")), .fieldLink RX0 17 "TemplateForge$Book" "told" "I", .methodLink RX11 48 yX0_at, .instanceMethod yX0_at, .selects RX0 yX0_at yX0_at, .initialized RX0] ++ wsX110 ++ wsX00)
set_option maxRecDepth 100000 in
theorem zg_zc_X11_write_zc_X0_at : GoodIn zw_zc_X11_write (wsV RX11 48 RX0 yX0_at zw_zc_X0_at) := goodIn_r _ [4, 5, 6, 7, 2, 3, 12, 13] (by decide +kernel) (by decide +kernel)
set_option maxHeartbeats 4000000 in
set_option maxRecDepth 100000 in
theorem zc_X11_write (l : Launch) (D : va_G) (cI cZ cP cF : Nat) (h0 b d lo ma pr : Nat) (m0 o0 x0 : Int32) : Met l yX11_write zw_zc_X11_write ({ frames := 1, cells := 0, slots := 0, locals := 21 }) (va_Pc [.ref h0, .int m0, .int o0, .int x0] (fun U => va_P D vwCl [(h0, .inr (11, [.ref b, .ref d, .ref lo, .ref ma])), (b, .inr (0, [.ref pr, .int 0]))] U.heap ∧ zE D cI cZ cP cF U)) (vp_Si (fun r => r = -2)) 0 0 (fun _ => False) := by
  refine Met.ofW (cc := cX11_write) (maxL := 5) (ret := (some .int)) (by decide) rfl ?_
  intro p e s m args below meth c s₁ B hml hv
  obtain ⟨rfl, hP, hE⟩ := hv
  have hx := B.exec
  have hb := B.bytes
  have hr := B.returns
  have hts := atoms_spec (ws := zw_zc_X11_write) B.pre
  have hown : s.vm.findClass RX11 = some m.cls := findClass_of_methodNamed B.named
  have hlocks := B.notSynchronized
  have hK := hE.k
  have hP : va_P D vwCl [(h0, .inr (11, [.ref b, .ref d, .ref lo, .ref ma])), (b, .inr (0, [.ref pr, .int 0]))] s.heap := hP
  have hl := lv_entry ([.ref h0, .int m0, .int o0, .int x0]) (n := 5) (Nat.le_of_ble_eq_true rfl)
  rw [lg_entry_eq]
  generalize (lg_sl ([.ref h0, .int m0, .int o0, .int x0]) ++ List.replicate (5 - (lg_sl ([.ref h0, .int m0, .int o0, .int x0])).length) Slot.unset).toArray = ls at hl ⊢
  have hl : lv_has ls 5 [(0, .ref h0), (1, .int m0), (2, .int o0), (3, .int x0)] := hl
  refine lv_aload_n hx hb dX11_write_0 rfl (lv_at hl 0 rfl) ?_
  refine va_get (D := D) (ci := 11) (v := .ref b) (C := RX11) (T := TX11) (N := 4) hx hb hts (fun _ h => List.mem_cons_of_mem _ (List.mem_append_left _ (List.mem_append_right _ h))) hown hK hP 0 rfl rfl 0 (by decide) (hts (.fieldLink RX11 15 "TemplateForge" "book" "LTemplateForge$Book;") (List.mem_of_getElem? (i := 1) rfl)) (fun _ h9 => h9) rfl dX11_write_1 ?_
  refine lv_iload_n hx hb dX11_write_4 rfl (lv_at hl 1 rfl) ?_
  have hPc := hP.sub (ws' := [(b, .inr (0, [.ref pr, .int 0]))]) [1] rfl
  refine va_csq (va_Run.run (va_runV (As := [.int m0]) (rest := []) ⟨hx, hb, hml, hown, hts⟩ (zc_X0_at l D cI cZ cP cF b pr m0) (cwV 1 hts zg_zc_X11_write_zc_X0_at rfl rfl rfl (by decide +kernel) ⟨Nat.le_of_ble_eq_true rfl, Nat.le_of_ble_eq_true rfl⟩) ⟨zBR, va_recv hK hPc (ci := 0) (q0 := 0) rfl rfl, fun U hU hW => ⟨rfl, by rw [hU]; exact hPc, hE.warm hW⟩⟩ rfl rfl hl.1 rfl (lv_room (Nat.le_of_ble_eq_true rfl)) dX11_write_5 ⟨Nat.le_of_ble_eq_true rfl, Nat.le_of_ble_eq_true rfl⟩)) (fun r_5_1 h_5_1 => ?_)
  obtain rfl : r_5_1 = none := h_5_1
  refine lv_astoreN (lv' := [(4, .null), (0, .ref h0), (1, .int m0), (2, .int o0), (3, .int x0)]) hx hb dX11_write_8 hl (by decide) rfl (fun ls hl => ?_)
  refine lv_aloadN hx hb dX11_write_10 (lv_at hl 0 rfl) ?_
  refine lv_ifnullN (tgt := 25) hx hb dX11_write_12 (by decide) ?_
  refine lv_bipush (v := (-2)) hx hb dX11_write_25 (by decide) ?_
  exact W.iret (v := (-2)) hx hb hr (fun t ht hW => ⟨(-2), rfl, rfl, ht⟩) (fun q h => by cases h) dX11_write_27

def zw_zc_X11_look : List Cond := .code yX11_look cX11_look 3 (some .int) :: ([.fieldLink RX11 15 "TemplateForge" "book" "LTemplateForge$Book;", .code yX0_at cX0_at 2 (some (.object "TemplateForge$Program")), .fieldLink RX0 17 "TemplateForge$Book" "told" "I", .methodLink RX11 48 yX0_at, .instanceMethod yX0_at, .selects RX0 yX0_at yX0_at, .initialized RX0] ++ wsX110 ++ wsX00)
set_option maxRecDepth 100000 in
theorem zg_zc_X11_look_zc_X0_at : GoodIn zw_zc_X11_look (wsV RX11 48 RX0 yX0_at zw_zc_X0_at) := goodIn_r _ [4, 5, 6, 7, 2, 3, 12, 13] (by decide +kernel) (by decide +kernel)
set_option maxHeartbeats 4000000 in
set_option maxRecDepth 100000 in
theorem zc_X11_look (l : Launch) (D : va_G) (cI cZ cP cF : Nat) (h0 b d lo ma pr : Nat) (m0 : Int32) : Met l yX11_look zw_zc_X11_look ({ frames := 1, cells := 0, slots := 0, locals := 21 }) (va_Pc [.ref h0, .int m0] (fun U => va_P D vwCl [(h0, .inr (11, [.ref b, .ref d, .ref lo, .ref ma])), (b, .inr (0, [.ref pr, .int 0]))] U.heap ∧ zE D cI cZ cP cF U)) (vp_Si (fun r => r = -2)) 0 0 (fun _ => False) := by
  refine Met.ofW (cc := cX11_look) (maxL := 3) (ret := (some .int)) (by decide) rfl ?_
  intro p e s m args below meth c s₁ B hml hv
  obtain ⟨rfl, hP, hE⟩ := hv
  have hx := B.exec
  have hb := B.bytes
  have hr := B.returns
  have hts := atoms_spec (ws := zw_zc_X11_look) B.pre
  have hown : s.vm.findClass RX11 = some m.cls := findClass_of_methodNamed B.named
  have hlocks := B.notSynchronized
  have hK := hE.k
  have hP : va_P D vwCl [(h0, .inr (11, [.ref b, .ref d, .ref lo, .ref ma])), (b, .inr (0, [.ref pr, .int 0]))] s.heap := hP
  have hl := lv_entry ([.ref h0, .int m0]) (n := 3) (Nat.le_of_ble_eq_true rfl)
  rw [lg_entry_eq]
  generalize (lg_sl ([.ref h0, .int m0]) ++ List.replicate (3 - (lg_sl ([.ref h0, .int m0])).length) Slot.unset).toArray = ls at hl ⊢
  have hl : lv_has ls 3 [(0, .ref h0), (1, .int m0)] := hl
  refine lv_aload_n hx hb dX11_look_0 rfl (lv_at hl 0 rfl) ?_
  refine va_get (D := D) (ci := 11) (v := .ref b) (C := RX11) (T := TX11) (N := 4) hx hb hts (fun _ h => List.mem_cons_of_mem _ (List.mem_append_left _ (List.mem_append_right _ h))) hown hK hP 0 rfl rfl 0 (by decide) (hts (.fieldLink RX11 15 "TemplateForge" "book" "LTemplateForge$Book;") (List.mem_of_getElem? (i := 1) rfl)) (fun _ h9 => h9) rfl dX11_look_1 ?_
  refine lv_iload_n hx hb dX11_look_4 rfl (lv_at hl 1 rfl) ?_
  have hPc := hP.sub (ws' := [(b, .inr (0, [.ref pr, .int 0]))]) [1] rfl
  refine va_csq (va_Run.run (va_runV (As := [.int m0]) (rest := []) ⟨hx, hb, hml, hown, hts⟩ (zc_X0_at l D cI cZ cP cF b pr m0) (cwV 1 hts zg_zc_X11_look_zc_X0_at rfl rfl rfl (by decide +kernel) ⟨Nat.le_of_ble_eq_true rfl, Nat.le_of_ble_eq_true rfl⟩) ⟨zBR, va_recv hK hPc (ci := 0) (q0 := 0) rfl rfl, fun U hU hW => ⟨rfl, by rw [hU]; exact hPc, hE.warm hW⟩⟩ rfl rfl hl.1 rfl (lv_room (Nat.le_of_ble_eq_true rfl)) dX11_look_5 ⟨Nat.le_of_ble_eq_true rfl, Nat.le_of_ble_eq_true rfl⟩)) (fun r_5_1 h_5_1 => ?_)
  obtain rfl : r_5_1 = none := h_5_1
  refine lv_astore_nN (lv' := [(2, .null), (0, .ref h0), (1, .int m0)]) hx hb dX11_look_8 rfl hl (by decide) rfl (fun ls hl => ?_)
  refine lv_aload_nN hx hb dX11_look_9 rfl (lv_at hl 0 rfl) ?_
  refine lv_ifnonnullN hx hb dX11_look_10 ?_
  refine lv_bipush (v := (-2)) hx hb dX11_look_13 (by decide) ?_
  exact W.iret (v := (-2)) hx hb hr (fun t ht hW => ⟨(-2), rfl, rfl, ht⟩) (fun q h => by cases h) dX11_look_15

def zw_zc_X11_fault : List Cond := .code yX11_fault cX11_fault 1 (some .int) :: ([.fieldLink RX11 31 "TemplateForge" "looker" "LTemplateForge$Looker;", .fieldLink RX11 65 "TemplateForge$Looker" "found" "I"] ++ wsX110 ++ wsX60)
set_option maxHeartbeats 4000000 in
set_option maxRecDepth 100000 in
theorem zc_X11_fault (l : Launch) (D : va_G) (cI cZ cP cF : Nat) (h0 b d lo ma dr wa : Nat) : Met l yX11_fault zw_zc_X11_fault ({ frames := 0, cells := 0, slots := 0, locals := 0 }) (va_Pc [.ref h0] (fun U => va_P D vwCl [(h0, .inr (11, [.ref b, .ref d, .ref lo, .ref ma])), (lo, .inr (6, [.ref b, .ref dr, .ref wa, .int 0]))] U.heap ∧ zE D cI cZ cP cF U)) (vp_Si (fun r => r = 0)) 0 0 (fun _ => False) := by
  refine Met.ofW (cc := cX11_fault) (maxL := 1) (ret := (some .int)) (by decide) rfl ?_
  intro p e s m args below meth c s₁ B hml hv
  obtain ⟨rfl, hP, hE⟩ := hv
  have hx := B.exec
  have hb := B.bytes
  have hr := B.returns
  have hts := atoms_spec (ws := zw_zc_X11_fault) B.pre
  have hown : s.vm.findClass RX11 = some m.cls := findClass_of_methodNamed B.named
  have hlocks := B.notSynchronized
  have hK := hE.k
  have hP : va_P D vwCl [(h0, .inr (11, [.ref b, .ref d, .ref lo, .ref ma])), (lo, .inr (6, [.ref b, .ref dr, .ref wa, .int 0]))] s.heap := hP
  have hl := lv_entry ([.ref h0]) (n := 1) (Nat.le_of_ble_eq_true rfl)
  rw [lg_entry_eq]
  generalize (lg_sl ([.ref h0]) ++ List.replicate (1 - (lg_sl ([.ref h0])).length) Slot.unset).toArray = ls at hl ⊢
  have hl : lv_has ls 1 [(0, .ref h0)] := hl
  refine lv_aload_n hx hb dX11_fault_0 rfl (lv_at hl 0 rfl) ?_
  refine va_get (D := D) (ci := 11) (v := .ref lo) (C := RX11) (T := TX11) (N := 4) hx hb hts (fun _ h => List.mem_cons_of_mem _ (List.mem_append_left _ (List.mem_append_right _ h))) hown hK hP 0 rfl rfl 2 (by decide) (hts (.fieldLink RX11 31 "TemplateForge" "looker" "LTemplateForge$Looker;") (List.mem_of_getElem? (i := 1) rfl)) (fun _ h9 => h9) rfl dX11_fault_1 ?_
  refine va_get (D := D) (ci := 6) (v := .int 0) (C := RX6) (T := TX6) (N := 4) hx hb hts (fun _ h => List.mem_cons_of_mem _ (List.mem_append_right _ h)) hown hK hP 1 rfl rfl 3 (by decide) (hts (.fieldLink RX11 65 "TemplateForge$Looker" "found" "I") (List.mem_of_getElem? (i := 2) rfl)) (fun _ h9 => h9) rfl dX11_fault_4 ?_
  exact W.iret (v := 0) hx hb hr (fun t ht hW => ⟨0, rfl, rfl, ht⟩) (fun q h => by cases h) dX11_fault_7

def zw_zc_X11_keep : List Cond := .code yX11_keep cX11_keep 4 (some .int) :: ([.constant RX11 69 (-2147483648), .fieldLink RX11 22 "TemplateForge" "data" "LTemplateForge$Data;", .code yX2_valueOf cX2_valueOf 2 (some .int), .fieldLink RX2 9 "TemplateForge$Data" "fields" "[I", .methodLink RX11 70 yX2_valueOf, .instanceMethod yX2_valueOf, .selects RX2 yX2_valueOf yX2_valueOf, .initialized RX2, .code yX2_put cX2_put 3 none, .methodLink RX11 74 yX2_put, .instanceMethod yX2_put, .selects RX2 yX2_put yX2_put] ++ wsX110 ++ wsX20)
set_option maxRecDepth 100000 in
theorem zg_zc_X11_keep_zc_X2_valueOf : GoodIn zw_zc_X11_keep (wsV RX11 70 RX2 yX2_valueOf zw_zc_X2_valueOf) := goodIn_r _ [5, 6, 7, 8, 3, 4, 17, 18, 19] (by decide +kernel) (by decide +kernel)
set_option maxRecDepth 100000 in
theorem zg_zc_X11_keep_zc_X2_put : GoodIn zw_zc_X11_keep (wsV RX11 74 RX2 yX2_put zw_zc_X2_put) := goodIn_r _ [10, 11, 12, 8, 9, 4, 17, 18, 19] (by decide +kernel) (by decide +kernel)
set_option maxHeartbeats 4000000 in
set_option maxRecDepth 100000 in
theorem zc_X11_keep (l : Launch) (D : va_G) (cI cZ cP cF : Nat) (h0 b d lo ma f le it : Nat) (f0 v0 : Int32) (sz : Nat) : Met l yX11_keep zw_zc_X11_keep ({ frames := 1, cells := 0, slots := 0, locals := 22 }) (va_Pc [.ref h0, .int f0, .int v0] (fun U => U.heap.size = sz ∧ va_P D vwCl [(h0, .inr (11, [.ref b, .ref d, .ref lo, .ref ma])), (d, .inr (2, [.ref f, .ref le, .ref it])), (f, .inl (cI, 8, .inl (fun _ => 0)))] U.heap ∧ zE D cI cZ cP cF U ∧ va_D (fun _ => True) [(h0, .inr (11, [.ref b, .ref d, .ref lo, .ref ma])), (d, .inr (2, [.ref f, .ref le, .ref it])), (f, .inl (cI, 8, .inl (fun _ => 0)))])) (va_Qi (fun (r : Int32) (_ : Unit) => r = zsel f0 8 (-2147483648) 0) (fun (_ : Unit) t => va_P D vwCl [] t.heap ∧ va_D (va_A [(h0, .inr (11, [.ref b, .ref d, .ref lo, .ref ma])), (d, .inr (2, [.ref f, .ref le, .ref it])), (f, .inl (cI, 8, .inl (fun _ => 0)))] sz) []) (va_A [(h0, .inr (11, [.ref b, .ref d, .ref lo, .ref ma])), (d, .inr (2, [.ref f, .ref le, .ref it])), (f, .inl (cI, 8, .inl (fun _ => 0)))] sz)) 0 0 (va_A [(h0, .inr (11, [.ref b, .ref d, .ref lo, .ref ma])), (d, .inr (2, [.ref f, .ref le, .ref it])), (f, .inl (cI, 8, .inl (fun _ => 0)))] sz) := by
  refine Met.ofW (cc := cX11_keep) (maxL := 4) (ret := (some .int)) (by decide) rfl ?_
  intro p e s m args below meth c s₁ B hml hv
  obtain ⟨rfl, hsz, hP, hE, hD0⟩ := hv
  have hx := B.exec
  have hb := B.bytes
  have hr := B.returns
  have hts := atoms_spec (ws := zw_zc_X11_keep) B.pre
  have hown : s.vm.findClass RX11 = some m.cls := findClass_of_methodNamed B.named
  have hlocks := B.notSynchronized
  have hK := hE.k
  subst hsz
  have hD := hD0.self (sz := s.heap.size)
  generalize hAe : va_A [(h0, .inr (11, [.ref b, .ref d, .ref lo, .ref ma])), (d, .inr (2, [.ref f, .ref le, .ref it])), (f, .inl (cI, 8, .inl (fun _ => 0)))] s.heap.size = A at hD ⊢
  have hA : ∀ q : Nat, s.heap.size ≤ q → A q := fun q h => by rw [← hAe]; exact Or.inr h
  have hS : va_S A s.heap s.heap [] := va_S.rf
  have hP : va_P D vwCl [(h0, .inr (11, [.ref b, .ref d, .ref lo, .ref ma])), (d, .inr (2, [.ref f, .ref le, .ref it])), (f, .inl (cI, 8, .inl (fun _ => 0)))] s.heap := hP
  have hl := lv_entry ([.ref h0, .int f0, .int v0]) (n := 4) (Nat.le_of_ble_eq_true rfl)
  rw [lg_entry_eq]
  generalize (lg_sl ([.ref h0, .int f0, .int v0]) ++ List.replicate (4 - (lg_sl ([.ref h0, .int f0, .int v0])).length) Slot.unset).toArray = ls at hl ⊢
  have hl : lv_has ls 4 [(0, .ref h0), (1, .int f0), (2, .int v0)] := hl
  refine lv_iload_n hx hb dX11_keep_0 rfl (lv_at hl 1 rfl) ?_
  refine lv_if_lt (tgt := 10) hx hb dX11_keep_1 (by decide) (fun c_1 => ?_) (fun c_1 => ?_)
  · refine lv_ldc hx hb hown (hts (.constant RX11 69 (-2147483648)) (List.mem_of_getElem? (i := 1) rfl)) dX11_keep_10 ?_
    have hP9 := hP.sub (ws' := []) [] rfl
    have hD9 := hD.sub (ws' := []) [] (by decide) rfl
    refine W.widen (k := 0) (n := 0) (Nat.le_of_ble_eq_true rfl) (Nat.le_of_ble_eq_true rfl) ?_
    exact W.iret (v := (-2147483648)) hx hb hr (fun t ht hW => ⟨⟨(-2147483648), (), rfl, by simp only [zsel, c_1, if_true, if_false], by rw [ht]; exact hP9, hD9⟩, hS.F ht⟩) hS.2.2 dX11_keep_12
  · refine lv_iload_n hx hb dX11_keep_4 rfl (lv_at hl 1 rfl) ?_
    refine lv_bipush (v := 8) hx hb dX11_keep_5 (by decide) ?_
    refine lv_icmp_lt (tgt := 13) hx hb dX11_keep_7 (by decide) (fun c_7 => ?_) (fun c_7 => ?_)
    · refine lv_aload_n hx hb dX11_keep_13 rfl (lv_at hl 0 rfl) ?_
      refine va_get (D := D) (ci := 11) (v := .ref d) (C := RX11) (T := TX11) (N := 4) hx hb hts (fun _ h => List.mem_cons_of_mem _ (List.mem_append_left _ (List.mem_append_right _ h))) hown hK hP 0 rfl rfl 1 (by decide) (hts (.fieldLink RX11 22 "TemplateForge" "data" "LTemplateForge$Data;") (List.mem_of_getElem? (i := 2) rfl)) (fun _ h9 => h9) rfl dX11_keep_14 ?_
      refine lv_iload_n hx hb dX11_keep_17 rfl (lv_at hl 1 rfl) ?_
      have hPc := hP.sub (ws' := [(d, .inr (2, [.ref f, .ref le, .ref it])), (f, .inl (cI, 8, .inl (fun _ => 0)))]) [1, 2] rfl
      refine vp_callSi (va_Run.run (va_runV (As := [.int f0]) (rest := []) ⟨hx, hb, hml, hown, hts⟩ (zc_X2_valueOf l D cI cZ cP cF d f le it f0) (cwV 1 hts zg_zc_X11_keep_zc_X2_valueOf rfl rfl rfl (by decide +kernel) ⟨Nat.le_of_ble_eq_true rfl, Nat.le_of_ble_eq_true rfl⟩) ⟨zBR, va_recv hK hPc (ci := 2) (q0 := 0) rfl rfl, fun U hU hW => ⟨rfl, by rw [hU]; exact hPc, hE.warm hW⟩⟩ rfl rfl hl.1 rfl (lv_room (Nat.le_of_ble_eq_true rfl)) dX11_keep_18 ⟨Nat.le_of_ble_eq_true rfl, Nat.le_of_ble_eq_true rfl⟩)) (fun r_18_1 h_18_1 => ?_)
      obtain rfl : r_18_1 = 0 := h_18_1
      refine lv_istore_n (lv' := [(3, .int 0), (0, .ref h0), (1, .int f0), (2, .int v0)]) hx hb dX11_keep_21 rfl hl (by decide) rfl (fun ls hl => ?_)
      refine lv_aload_n hx hb dX11_keep_22 rfl (lv_at hl 1 rfl) ?_
      refine va_get (D := D) (ci := 11) (v := .ref d) (C := RX11) (T := TX11) (N := 4) hx hb hts (fun _ h => List.mem_cons_of_mem _ (List.mem_append_left _ (List.mem_append_right _ h))) hown hK hP 0 rfl rfl 1 (by decide) (hts (.fieldLink RX11 22 "TemplateForge" "data" "LTemplateForge$Data;") (List.mem_of_getElem? (i := 2) rfl)) (fun _ h9 => h9) rfl dX11_keep_23 ?_
      refine lv_iload_n hx hb dX11_keep_26 rfl (lv_at hl 2 rfl) ?_
      refine lv_iload_n hx hb dX11_keep_27 rfl (lv_at hl 3 rfl) ?_
      have hPc := hP.sub (ws' := [(d, .inr (2, [.ref f, .ref le, .ref it])), (f, .inl (cI, 8, .inl (fun _ => 0)))]) [1, 2] rfl
      have hDc := hD.sub (ws' := [(d, .inr (2, [.ref f, .ref le, .ref it])), (f, .inl (cI, 8, .inl (fun _ => 0)))]) [1, 2] (by decide) rfl
      have hFc := va_free (wc := [(d, .inr (2, [.ref f, .ref le, .ref it])), (f, .inl (cI, 8, .inl (fun _ => 0)))]) hD hS hA [1, 2] rfl
      refine va_callv (va_runV (As := [.int f0, .int v0]) (rest := []) ⟨hx, hb, hml, hown, hts⟩ (zc_X2_put l D cI cZ cP cF d f le it f0 v0 s.heap.size) (cwV 2 hts zg_zc_X11_keep_zc_X2_put rfl rfl rfl (by decide +kernel) ⟨Nat.le_of_ble_eq_true rfl, Nat.le_of_ble_eq_true rfl⟩) ⟨zBW, va_recv hK hPc (ci := 2) (q0 := 0) rfl rfl, fun U hU hW => ⟨rfl, by rw [hU], by rw [hU]; exact hPc, hE.warm hW, hDc.weaken (fun _ _ _ _ => trivial)⟩⟩ rfl rfl hl.1 rfl (lv_room (Nat.le_of_ble_eq_true rfl)) dX11_keep_28 ⟨Nat.le_of_ble_eq_true rfl, Nat.le_of_ble_eq_true rfl⟩) hS (fun q _ h => hFc q h) hFc (fun u t H1 locs ht hvm h_28_2 hB hz1 hk1 hS => ?_)
      obtain ⟨hP1, hD1⟩ := hB
      rw [ht] at hP1
      obtain ⟨hP, hD⟩ := va_join (wr := [(h0, .inr (11, [.ref b, .ref d, .ref lo, .ref ma]))]) (w1 := []) hP hD [1, 2] [0] rfl rfl (by decide) (by decide) hk1 hFc hP1 hD1
      generalize H1 = H at hP hS ⊢
      have hP : va_P D vwCl [(h0, .inr (11, [.ref b, .ref d, .ref lo, .ref ma]))] H := hP
      have hD : va_D A [(h0, .inr (11, [.ref b, .ref d, .ref lo, .ref ma]))] := hD
      refine lv_iload_n hx hb dX11_keep_31 rfl (lv_at hl 0 rfl) ?_
      have hP9 := hP.sub (ws' := []) [] rfl
      have hD9 := hD.sub (ws' := []) [] (by decide) rfl
      refine W.widen (k := 0) (n := 0) (Nat.le_of_ble_eq_true rfl) (Nat.le_of_ble_eq_true rfl) ?_
      exact W.iret (v := 0) hx hb hr (fun t ht hW => ⟨⟨0, (), rfl, by simp only [zsel, c_1, c_7, if_true, if_false], by rw [ht]; exact hP9, hD9⟩, hS.F ht⟩) hS.2.2 dX11_keep_32
    · refine lv_ldc hx hb hown (hts (.constant RX11 69 (-2147483648)) (List.mem_of_getElem? (i := 1) rfl)) dX11_keep_10 ?_
      have hP9 := hP.sub (ws' := []) [] rfl
      have hD9 := hD.sub (ws' := []) [] (by decide) rfl
      refine W.widen (k := 0) (n := 0) (Nat.le_of_ble_eq_true rfl) (Nat.le_of_ble_eq_true rfl) ?_
      exact W.iret (v := (-2147483648)) hx hb hr (fun t ht hW => ⟨⟨(-2147483648), (), rfl, by simp only [zsel, c_1, c_7, if_true, if_false], by rw [ht]; exact hP9, hD9⟩, hS.F ht⟩) hS.2.2 dX11_keep_12

def zw_zc_X11_field : List Cond := .code yX11_field cX11_field 2 (some .int) :: ([.constant RX11 69 (-2147483648), .fieldLink RX11 22 "TemplateForge" "data" "LTemplateForge$Data;", .code yX2_valueOf cX2_valueOf 2 (some .int), .fieldLink RX2 9 "TemplateForge$Data" "fields" "[I", .methodLink RX11 70 yX2_valueOf, .instanceMethod yX2_valueOf, .selects RX2 yX2_valueOf yX2_valueOf, .initialized RX2] ++ wsX110 ++ wsX20)
set_option maxRecDepth 100000 in
theorem zg_zc_X11_field_zc_X2_valueOf : GoodIn zw_zc_X11_field (wsV RX11 70 RX2 yX2_valueOf zw_zc_X2_valueOf) := goodIn_r _ [5, 6, 7, 8, 3, 4, 13, 14, 15] (by decide +kernel) (by decide +kernel)
set_option maxHeartbeats 4000000 in
set_option maxRecDepth 100000 in
theorem zc_X11_field (l : Launch) (D : va_G) (cI cZ cP cF : Nat) (h0 b d lo ma f le it : Nat) (f0 : Int32) : Met l yX11_field zw_zc_X11_field ({ frames := 1, cells := 0, slots := 0, locals := 21 }) (va_Pc [.ref h0, .int f0] (fun U => va_P D vwCl [(h0, .inr (11, [.ref b, .ref d, .ref lo, .ref ma])), (d, .inr (2, [.ref f, .ref le, .ref it])), (f, .inl (cI, 8, .inl (fun _ => 0)))] U.heap ∧ zE D cI cZ cP cF U)) (vp_Si (fun r => r = zsel f0 8 (-2147483648) 0)) 0 0 (fun _ => False) := by
  refine Met.ofW (cc := cX11_field) (maxL := 2) (ret := (some .int)) (by decide) rfl ?_
  intro p e s m args below meth c s₁ B hml hv
  obtain ⟨rfl, hP, hE⟩ := hv
  have hx := B.exec
  have hb := B.bytes
  have hr := B.returns
  have hts := atoms_spec (ws := zw_zc_X11_field) B.pre
  have hown : s.vm.findClass RX11 = some m.cls := findClass_of_methodNamed B.named
  have hlocks := B.notSynchronized
  have hK := hE.k
  have hP : va_P D vwCl [(h0, .inr (11, [.ref b, .ref d, .ref lo, .ref ma])), (d, .inr (2, [.ref f, .ref le, .ref it])), (f, .inl (cI, 8, .inl (fun _ => 0)))] s.heap := hP
  have hl := lv_entry ([.ref h0, .int f0]) (n := 2) (Nat.le_of_ble_eq_true rfl)
  rw [lg_entry_eq]
  generalize (lg_sl ([.ref h0, .int f0]) ++ List.replicate (2 - (lg_sl ([.ref h0, .int f0])).length) Slot.unset).toArray = ls at hl ⊢
  have hl : lv_has ls 2 [(0, .ref h0), (1, .int f0)] := hl
  refine lv_iload_n hx hb dX11_field_0 rfl (lv_at hl 1 rfl) ?_
  refine lv_if_lt (tgt := 10) hx hb dX11_field_1 (by decide) (fun c_1 => ?_) (fun c_1 => ?_)
  · refine lv_ldc hx hb hown (hts (.constant RX11 69 (-2147483648)) (List.mem_of_getElem? (i := 1) rfl)) dX11_field_10 ?_
    refine lv_goto (tgt := 23) hx hb dX11_field_12 (by decide) ?_
    exact W.iret (v := (-2147483648)) hx hb hr (fun t ht hW => ⟨(-2147483648), rfl, by simp only [zsel, c_1, if_true, if_false], ht⟩) (fun q h => by cases h) dX11_field_23
  · refine lv_iload_n hx hb dX11_field_4 rfl (lv_at hl 1 rfl) ?_
    refine lv_bipush (v := 8) hx hb dX11_field_5 (by decide) ?_
    refine lv_icmp_lt (tgt := 15) hx hb dX11_field_7 (by decide) (fun c_7 => ?_) (fun c_7 => ?_)
    · refine lv_aload_n hx hb dX11_field_15 rfl (lv_at hl 0 rfl) ?_
      refine va_get (D := D) (ci := 11) (v := .ref d) (C := RX11) (T := TX11) (N := 4) hx hb hts (fun _ h => List.mem_cons_of_mem _ (List.mem_append_left _ (List.mem_append_right _ h))) hown hK hP 0 rfl rfl 1 (by decide) (hts (.fieldLink RX11 22 "TemplateForge" "data" "LTemplateForge$Data;") (List.mem_of_getElem? (i := 2) rfl)) (fun _ h9 => h9) rfl dX11_field_16 ?_
      refine lv_iload_n hx hb dX11_field_19 rfl (lv_at hl 1 rfl) ?_
      have hPc := hP.sub (ws' := [(d, .inr (2, [.ref f, .ref le, .ref it])), (f, .inl (cI, 8, .inl (fun _ => 0)))]) [1, 2] rfl
      refine vp_callSi (va_Run.run (va_runV (As := [.int f0]) (rest := []) ⟨hx, hb, hml, hown, hts⟩ (zc_X2_valueOf l D cI cZ cP cF d f le it f0) (cwV 1 hts zg_zc_X11_field_zc_X2_valueOf rfl rfl rfl (by decide +kernel) ⟨Nat.le_of_ble_eq_true rfl, Nat.le_of_ble_eq_true rfl⟩) ⟨zBR, va_recv hK hPc (ci := 2) (q0 := 0) rfl rfl, fun U hU hW => ⟨rfl, by rw [hU]; exact hPc, hE.warm hW⟩⟩ rfl rfl hl.1 rfl (lv_room (Nat.le_of_ble_eq_true rfl)) dX11_field_20 ⟨Nat.le_of_ble_eq_true rfl, Nat.le_of_ble_eq_true rfl⟩)) (fun r_20_1 h_20_1 => ?_)
      obtain rfl : r_20_1 = 0 := h_20_1
      exact W.iret (v := 0) hx hb hr (fun t ht hW => ⟨0, rfl, by simp only [zsel, c_1, c_7, if_true, if_false], ht⟩) (fun q h => by cases h) dX11_field_23
    · refine lv_ldc hx hb hown (hts (.constant RX11 69 (-2147483648)) (List.mem_of_getElem? (i := 1) rfl)) dX11_field_10 ?_
      refine lv_goto (tgt := 23) hx hb dX11_field_12 (by decide) ?_
      exact W.iret (v := (-2147483648)) hx hb hr (fun t ht hW => ⟨(-2147483648), rfl, by simp only [zsel, c_1, c_7, if_true, if_false], ht⟩) (fun q h => by cases h) dX11_field_23

def zw_zc_X11_lose : List Cond := .code yX11_lose cX11_lose 3 (some .int) :: ([.fieldLink RX11 22 "TemplateForge" "data" "LTemplateForge$Data;", .code yX2_lengthOf cX2_lengthOf 2 (some .int), .fieldLink RX2 15 "TemplateForge$Data" "lengths" "[I", .methodLink RX11 78 yX2_lengthOf, .instanceMethod yX2_lengthOf, .selects RX2 yX2_lengthOf yX2_lengthOf, .initialized RX2, .code yX2_renew cX2_renew 3 none, .fieldLink RX2 18 "TemplateForge$Data" "items" "[I", .code yJ7_fill_fda19 cJ7_fill_fda19 5 none, .code yJ7_rangeCheck_23922 cJ7_rangeCheck_23922 3 none, .methodLink RJ7 13 yJ7_rangeCheck_23922, .static yJ7_rangeCheck_23922, .initialized RJ7, .methodLink RX2 27 yJ7_fill_fda19, .static yJ7_fill_fda19, .methodLink RX11 81 yX2_renew, .instanceMethod yX2_renew, .selects RX2 yX2_renew yX2_renew] ++ wsX110 ++ wsX20)
set_option maxRecDepth 100000 in
theorem zg_zc_X11_lose_zc_X2_lengthOf : GoodIn zw_zc_X11_lose (wsV RX11 78 RX2 yX2_lengthOf zw_zc_X2_lengthOf) := goodIn_r _ [4, 5, 6, 7, 2, 3, 24, 25, 26] (by decide +kernel) (by decide +kernel)
set_option maxRecDepth 100000 in
theorem zg_zc_X11_lose_zc_X2_renew : GoodIn zw_zc_X11_lose (wsV RX11 81 RX2 yX2_renew zw_zc_X2_renew) := goodIn_r _ [17, 18, 19, 7, 8, 3, 9, 10, 11, 12, 13, 14, 15, 16, 24, 25, 26] (by decide +kernel) (by decide +kernel)
set_option maxHeartbeats 4000000 in
set_option maxRecDepth 100000 in
theorem zc_X11_lose (l : Launch) (D : va_G) (cI cZ cP cF : Nat) (h0 b d lo ma f le it : Nat) (g : Nat → Int32) (r0 : Int32) (sz : Nat) (hM : zM4 g) : Met l yX11_lose zw_zc_X11_lose ({ frames := 3, cells := 0, slots := 0, locals := 68 }) (va_Pc [.ref h0, .int r0] (fun U => U.heap.size = sz ∧ va_P D vwCl [(h0, .inr (11, [.ref b, .ref d, .ref lo, .ref ma])), (d, .inr (2, [.ref f, .ref le, .ref it])), (le, .inl (cI, 4, .inl g)), (it, .inl (cI, 80, .inl (fun _ => 0)))] U.heap ∧ zE D cI cZ cP cF U ∧ va_D (fun _ => True) [(h0, .inr (11, [.ref b, .ref d, .ref lo, .ref ma])), (d, .inr (2, [.ref f, .ref le, .ref it])), (le, .inl (cI, 4, .inl g)), (it, .inl (cI, 80, .inl (fun _ => 0)))])) (va_Qi (fun (r : Int32) (_ : Unit) => r = zsel r0 4 (-2) (-1)) (fun (_ : Unit) t => va_P D vwCl [] t.heap ∧ va_D (va_A [(h0, .inr (11, [.ref b, .ref d, .ref lo, .ref ma])), (d, .inr (2, [.ref f, .ref le, .ref it])), (le, .inl (cI, 4, .inl g)), (it, .inl (cI, 80, .inl (fun _ => 0)))] sz) []) (va_A [(h0, .inr (11, [.ref b, .ref d, .ref lo, .ref ma])), (d, .inr (2, [.ref f, .ref le, .ref it])), (le, .inl (cI, 4, .inl g)), (it, .inl (cI, 80, .inl (fun _ => 0)))] sz)) 0 0 (va_A [(h0, .inr (11, [.ref b, .ref d, .ref lo, .ref ma])), (d, .inr (2, [.ref f, .ref le, .ref it])), (le, .inl (cI, 4, .inl g)), (it, .inl (cI, 80, .inl (fun _ => 0)))] sz) := by
  refine Met.ofW (cc := cX11_lose) (maxL := 3) (ret := (some .int)) (by decide) rfl ?_
  intro p e s m args below meth c s₁ B hml hv
  obtain ⟨rfl, hsz, hP, hE, hD0⟩ := hv
  have hx := B.exec
  have hb := B.bytes
  have hr := B.returns
  have hts := atoms_spec (ws := zw_zc_X11_lose) B.pre
  have hown : s.vm.findClass RX11 = some m.cls := findClass_of_methodNamed B.named
  have hlocks := B.notSynchronized
  have hK := hE.k
  subst hsz
  have hD := hD0.self (sz := s.heap.size)
  generalize hAe : va_A [(h0, .inr (11, [.ref b, .ref d, .ref lo, .ref ma])), (d, .inr (2, [.ref f, .ref le, .ref it])), (le, .inl (cI, 4, .inl g)), (it, .inl (cI, 80, .inl (fun _ => 0)))] s.heap.size = A at hD ⊢
  have hA : ∀ q : Nat, s.heap.size ≤ q → A q := fun q h => by rw [← hAe]; exact Or.inr h
  have hS : va_S A s.heap s.heap [] := va_S.rf
  have hP : va_P D vwCl [(h0, .inr (11, [.ref b, .ref d, .ref lo, .ref ma])), (d, .inr (2, [.ref f, .ref le, .ref it])), (le, .inl (cI, 4, .inl g)), (it, .inl (cI, 80, .inl (fun _ => 0)))] s.heap := hP
  have hl := lv_entry ([.ref h0, .int r0]) (n := 3) (Nat.le_of_ble_eq_true rfl)
  rw [lg_entry_eq]
  generalize (lg_sl ([.ref h0, .int r0]) ++ List.replicate (3 - (lg_sl ([.ref h0, .int r0])).length) Slot.unset).toArray = ls at hl ⊢
  have hl : lv_has ls 3 [(0, .ref h0), (1, .int r0)] := hl
  refine lv_iload_n hx hb dX11_lose_0 rfl (lv_at hl 1 rfl) ?_
  refine lv_if_lt (tgt := 9) hx hb dX11_lose_1 (by decide) (fun c_1 => ?_) (fun c_1 => ?_)
  · refine lv_bipush (v := (-2)) hx hb dX11_lose_9 (by decide) ?_
    have hP9 := hP.sub (ws' := []) [] rfl
    have hD9 := hD.sub (ws' := []) [] (by decide) rfl
    refine W.widen (k := 0) (n := 0) (Nat.le_of_ble_eq_true rfl) (Nat.le_of_ble_eq_true rfl) ?_
    exact W.iret (v := (-2)) hx hb hr (fun t ht hW => ⟨⟨(-2), (), rfl, by simp only [zsel, c_1, if_true, if_false], by rw [ht]; exact hP9, hD9⟩, hS.F ht⟩) hS.2.2 dX11_lose_11
  · refine lv_iload_n hx hb dX11_lose_4 rfl (lv_at hl 1 rfl) ?_
    refine lv_iconst (v := 4) hx hb dX11_lose_5 (by decide) ?_
    refine lv_icmp_lt (tgt := 12) hx hb dX11_lose_6 (by decide) (fun c_6 => ?_) (fun c_6 => ?_)
    · refine lv_aload_n hx hb dX11_lose_12 rfl (lv_at hl 0 rfl) ?_
      refine va_get (D := D) (ci := 11) (v := .ref d) (C := RX11) (T := TX11) (N := 4) hx hb hts (fun _ h => List.mem_cons_of_mem _ (List.mem_append_left _ (List.mem_append_right _ h))) hown hK hP 0 rfl rfl 1 (by decide) (hts (.fieldLink RX11 22 "TemplateForge" "data" "LTemplateForge$Data;") (List.mem_of_getElem? (i := 1) rfl)) (fun _ h9 => h9) rfl dX11_lose_13 ?_
      refine lv_iload_n hx hb dX11_lose_16 rfl (lv_at hl 1 rfl) ?_
      have hPc := hP.sub (ws' := [(d, .inr (2, [.ref f, .ref le, .ref it])), (le, .inl (cI, 4, .inl g))]) [1, 2] rfl
      refine vp_callSi (va_Run.run (va_runV (As := [.int r0]) (rest := []) ⟨hx, hb, hml, hown, hts⟩ (zc_X2_lengthOf l D cI cZ cP cF d f le it g r0 hM) (cwV 1 hts zg_zc_X11_lose_zc_X2_lengthOf rfl rfl rfl (by decide +kernel) ⟨Nat.le_of_ble_eq_true rfl, Nat.le_of_ble_eq_true rfl⟩) ⟨zBR, va_recv hK hPc (ci := 2) (q0 := 0) rfl rfl, fun U hU hW => ⟨rfl, by rw [hU]; exact hPc, hE.warm hW⟩⟩ rfl rfl hl.1 rfl (lv_room (Nat.le_of_ble_eq_true rfl)) dX11_lose_17 ⟨Nat.le_of_ble_eq_true rfl, Nat.le_of_ble_eq_true rfl⟩)) (fun r_17_1 h_17_1 => ?_)
      obtain rfl : r_17_1 = (-1) := h_17_1
      refine lv_istore_n (lv' := [(2, .int (-1)), (0, .ref h0), (1, .int r0)]) hx hb dX11_lose_20 rfl hl (by decide) rfl (fun ls hl => ?_)
      refine lv_aload_n hx hb dX11_lose_21 rfl (lv_at hl 1 rfl) ?_
      refine va_get (D := D) (ci := 11) (v := .ref d) (C := RX11) (T := TX11) (N := 4) hx hb hts (fun _ h => List.mem_cons_of_mem _ (List.mem_append_left _ (List.mem_append_right _ h))) hown hK hP 0 rfl rfl 1 (by decide) (hts (.fieldLink RX11 22 "TemplateForge" "data" "LTemplateForge$Data;") (List.mem_of_getElem? (i := 1) rfl)) (fun _ h9 => h9) rfl dX11_lose_22 ?_
      refine lv_iload_n hx hb dX11_lose_25 rfl (lv_at hl 2 rfl) ?_
      refine lv_iconst (v := (-1)) hx hb dX11_lose_26 (by decide) ?_
      have hPc := hP.sub (ws' := [(d, .inr (2, [.ref f, .ref le, .ref it])), (le, .inl (cI, 4, .inl g)), (it, .inl (cI, 80, .inl (fun _ => 0)))]) [1, 2, 3] rfl
      have hDc := hD.sub (ws' := [(d, .inr (2, [.ref f, .ref le, .ref it])), (le, .inl (cI, 4, .inl g)), (it, .inl (cI, 80, .inl (fun _ => 0)))]) [1, 2, 3] (by decide) rfl
      have hFc := va_free (wc := [(d, .inr (2, [.ref f, .ref le, .ref it])), (le, .inl (cI, 4, .inl g)), (it, .inl (cI, 80, .inl (fun _ => 0)))]) hD hS hA [1, 2, 3] rfl
      refine va_callv (va_runV (As := [.int r0, .int (-1)]) (rest := []) ⟨hx, hb, hml, hown, hts⟩ (zc_X2_renew l D cI cZ cP cF d f le it g (fun _ => 0) r0 s.heap.size) (cwV 2 hts zg_zc_X11_lose_zc_X2_renew rfl rfl rfl (by decide +kernel) ⟨Nat.le_of_ble_eq_true rfl, Nat.le_of_ble_eq_true rfl⟩) ⟨zBW, va_recv hK hPc (ci := 2) (q0 := 0) rfl rfl, fun U hU hW => ⟨rfl, by rw [hU], by rw [hU]; exact hPc, hE.warm hW, hDc.weaken (fun _ _ _ _ => trivial)⟩⟩ rfl rfl hl.1 rfl (lv_room (Nat.le_of_ble_eq_true rfl)) dX11_lose_27 ⟨Nat.le_of_ble_eq_true rfl, Nat.le_of_ble_eq_true rfl⟩) hS (fun q _ h => hFc q h) hFc (fun u t H1 locs ht hvm h_27_2 hB hz1 hk1 hS => ?_)
      obtain ⟨hP1, hD1⟩ := hB
      rw [ht] at hP1
      obtain ⟨hP, hD⟩ := va_join (wr := [(h0, .inr (11, [.ref b, .ref d, .ref lo, .ref ma]))]) (w1 := []) hP hD [1, 2, 3] [0] rfl rfl (by decide) (by decide) hk1 hFc hP1 hD1
      generalize H1 = H at hP hS ⊢
      have hP : va_P D vwCl [(h0, .inr (11, [.ref b, .ref d, .ref lo, .ref ma]))] H := hP
      have hD : va_D A [(h0, .inr (11, [.ref b, .ref d, .ref lo, .ref ma]))] := hD
      refine lv_iload_n hx hb dX11_lose_30 rfl (lv_at hl 0 rfl) ?_
      have hP9 := hP.sub (ws' := []) [] rfl
      have hD9 := hD.sub (ws' := []) [] (by decide) rfl
      refine W.widen (k := 0) (n := 0) (Nat.le_of_ble_eq_true rfl) (Nat.le_of_ble_eq_true rfl) ?_
      exact W.iret (v := (-1)) hx hb hr (fun t ht hW => ⟨⟨(-1), (), rfl, by simp only [zsel, c_1, c_6, if_true, if_false], by rw [ht]; exact hP9, hD9⟩, hS.F ht⟩) hS.2.2 dX11_lose_31
    · refine lv_bipush (v := (-2)) hx hb dX11_lose_9 (by decide) ?_
      have hP9 := hP.sub (ws' := []) [] rfl
      have hD9 := hD.sub (ws' := []) [] (by decide) rfl
      refine W.widen (k := 0) (n := 0) (Nat.le_of_ble_eq_true rfl) (Nat.le_of_ble_eq_true rfl) ?_
      exact W.iret (v := (-2)) hx hb hr (fun t ht hW => ⟨⟨(-2), (), rfl, by simp only [zsel, c_1, c_6, if_true, if_false], by rw [ht]; exact hP9, hD9⟩, hS.F ht⟩) hS.2.2 dX11_lose_11

def zw_zc_X11_size : List Cond := .code yX11_size cX11_size 2 (some .int) :: ([.fieldLink RX11 22 "TemplateForge" "data" "LTemplateForge$Data;", .code yX2_lengthOf cX2_lengthOf 2 (some .int), .fieldLink RX2 15 "TemplateForge$Data" "lengths" "[I", .methodLink RX11 78 yX2_lengthOf, .instanceMethod yX2_lengthOf, .selects RX2 yX2_lengthOf yX2_lengthOf, .initialized RX2] ++ wsX110 ++ wsX20)
set_option maxRecDepth 100000 in
theorem zg_zc_X11_size_zc_X2_lengthOf : GoodIn zw_zc_X11_size (wsV RX11 78 RX2 yX2_lengthOf zw_zc_X2_lengthOf) := goodIn_r _ [4, 5, 6, 7, 2, 3, 12, 13, 14] (by decide +kernel) (by decide +kernel)
set_option maxHeartbeats 4000000 in
set_option maxRecDepth 100000 in
theorem zc_X11_size (l : Launch) (D : va_G) (cI cZ cP cF : Nat) (h0 b d lo ma f le it : Nat) (g : Nat → Int32) (r0 : Int32) (hM : zM4 g) : Met l yX11_size zw_zc_X11_size ({ frames := 1, cells := 0, slots := 0, locals := 21 }) (va_Pc [.ref h0, .int r0] (fun U => va_P D vwCl [(h0, .inr (11, [.ref b, .ref d, .ref lo, .ref ma])), (d, .inr (2, [.ref f, .ref le, .ref it])), (le, .inl (cI, 4, .inl g))] U.heap ∧ zE D cI cZ cP cF U)) (vp_Si (fun r => r = zsel r0 4 (-2) (-1))) 0 0 (fun _ => False) := by
  refine Met.ofW (cc := cX11_size) (maxL := 2) (ret := (some .int)) (by decide) rfl ?_
  intro p e s m args below meth c s₁ B hml hv
  obtain ⟨rfl, hP, hE⟩ := hv
  have hx := B.exec
  have hb := B.bytes
  have hr := B.returns
  have hts := atoms_spec (ws := zw_zc_X11_size) B.pre
  have hown : s.vm.findClass RX11 = some m.cls := findClass_of_methodNamed B.named
  have hlocks := B.notSynchronized
  have hK := hE.k
  have hP : va_P D vwCl [(h0, .inr (11, [.ref b, .ref d, .ref lo, .ref ma])), (d, .inr (2, [.ref f, .ref le, .ref it])), (le, .inl (cI, 4, .inl g))] s.heap := hP
  have hl := lv_entry ([.ref h0, .int r0]) (n := 2) (Nat.le_of_ble_eq_true rfl)
  rw [lg_entry_eq]
  generalize (lg_sl ([.ref h0, .int r0]) ++ List.replicate (2 - (lg_sl ([.ref h0, .int r0])).length) Slot.unset).toArray = ls at hl ⊢
  have hl : lv_has ls 2 [(0, .ref h0), (1, .int r0)] := hl
  refine lv_iload_n hx hb dX11_size_0 rfl (lv_at hl 1 rfl) ?_
  refine lv_if_lt (tgt := 9) hx hb dX11_size_1 (by decide) (fun c_1 => ?_) (fun c_1 => ?_)
  · refine lv_bipush (v := (-2)) hx hb dX11_size_9 (by decide) ?_
    refine lv_goto (tgt := 22) hx hb dX11_size_11 (by decide) ?_
    exact W.iret (v := (-2)) hx hb hr (fun t ht hW => ⟨(-2), rfl, by simp only [zsel, c_1, if_true, if_false], ht⟩) (fun q h => by cases h) dX11_size_22
  · refine lv_iload_n hx hb dX11_size_4 rfl (lv_at hl 1 rfl) ?_
    refine lv_iconst (v := 4) hx hb dX11_size_5 (by decide) ?_
    refine lv_icmp_lt (tgt := 14) hx hb dX11_size_6 (by decide) (fun c_6 => ?_) (fun c_6 => ?_)
    · refine lv_aload_n hx hb dX11_size_14 rfl (lv_at hl 0 rfl) ?_
      refine va_get (D := D) (ci := 11) (v := .ref d) (C := RX11) (T := TX11) (N := 4) hx hb hts (fun _ h => List.mem_cons_of_mem _ (List.mem_append_left _ (List.mem_append_right _ h))) hown hK hP 0 rfl rfl 1 (by decide) (hts (.fieldLink RX11 22 "TemplateForge" "data" "LTemplateForge$Data;") (List.mem_of_getElem? (i := 1) rfl)) (fun _ h9 => h9) rfl dX11_size_15 ?_
      refine lv_iload_n hx hb dX11_size_18 rfl (lv_at hl 1 rfl) ?_
      have hPc := hP.sub (ws' := [(d, .inr (2, [.ref f, .ref le, .ref it])), (le, .inl (cI, 4, .inl g))]) [1, 2] rfl
      refine vp_callSi (va_Run.run (va_runV (As := [.int r0]) (rest := []) ⟨hx, hb, hml, hown, hts⟩ (zc_X2_lengthOf l D cI cZ cP cF d f le it g r0 hM) (cwV 1 hts zg_zc_X11_size_zc_X2_lengthOf rfl rfl rfl (by decide +kernel) ⟨Nat.le_of_ble_eq_true rfl, Nat.le_of_ble_eq_true rfl⟩) ⟨zBR, va_recv hK hPc (ci := 2) (q0 := 0) rfl rfl, fun U hU hW => ⟨rfl, by rw [hU]; exact hPc, hE.warm hW⟩⟩ rfl rfl hl.1 rfl (lv_room (Nat.le_of_ble_eq_true rfl)) dX11_size_19 ⟨Nat.le_of_ble_eq_true rfl, Nat.le_of_ble_eq_true rfl⟩)) (fun r_19_1 h_19_1 => ?_)
      obtain rfl : r_19_1 = (-1) := h_19_1
      exact W.iret (v := (-1)) hx hb hr (fun t ht hW => ⟨(-1), rfl, by simp only [zsel, c_1, c_6, if_true, if_false], ht⟩) (fun q h => by cases h) dX11_size_22
    · refine lv_bipush (v := (-2)) hx hb dX11_size_9 (by decide) ?_
      refine lv_goto (tgt := 22) hx hb dX11_size_11 (by decide) ?_
      exact W.iret (v := (-2)) hx hb hr (fun t ht hW => ⟨(-2), rfl, by simp only [zsel, c_1, c_6, if_true, if_false], ht⟩) (fun q h => by cases h) dX11_size_22

def zw_zc_X11_item : List Cond := .code yX11_item cX11_item 3 (some .int) :: ([.fieldLink RX11 22 "TemplateForge" "data" "LTemplateForge$Data;", .code yX2_itemOf cX2_itemOf 3 (some .int), .code yX2_lengthOf cX2_lengthOf 2 (some .int), .fieldLink RX2 15 "TemplateForge$Data" "lengths" "[I", .methodLink RX2 30 yX2_lengthOf, .instanceMethod yX2_lengthOf, .selects RX2 yX2_lengthOf yX2_lengthOf, .initialized RX2, .methodLink RX11 84 yX2_itemOf, .instanceMethod yX2_itemOf, .selects RX2 yX2_itemOf yX2_itemOf] ++ wsX110 ++ wsX20)
set_option maxRecDepth 100000 in
theorem zg_zc_X11_item_zc_X2_itemOf : GoodIn zw_zc_X11_item (wsV RX11 84 RX2 yX2_itemOf zw_zc_X2_itemOf) := goodIn_r _ [9, 10, 11, 8, 2, 3, 4, 5, 6, 7, 8, 16, 17, 18] (by decide +kernel) (by decide +kernel)
set_option maxHeartbeats 4000000 in
set_option maxRecDepth 100000 in
theorem zc_X11_item (l : Launch) (D : va_G) (cI cZ cP cF : Nat) (h0 b d lo ma f le it : Nat) (g : Nat → Int32) (r0 i0 : Int32) (hM : zM4 g) : Met l yX11_item zw_zc_X11_item ({ frames := 2, cells := 0, slots := 0, locals := 43 }) (va_Pc [.ref h0, .int r0, .int i0] (fun U => va_P D vwCl [(h0, .inr (11, [.ref b, .ref d, .ref lo, .ref ma])), (d, .inr (2, [.ref f, .ref le, .ref it])), (le, .inl (cI, 4, .inl g))] U.heap ∧ zE D cI cZ cP cF U)) (vp_Si (fun r => r = 0)) 0 0 (fun _ => False) := by
  refine Met.ofW (cc := cX11_item) (maxL := 3) (ret := (some .int)) (by decide) rfl ?_
  intro p e s m args below meth c s₁ B hml hv
  obtain ⟨rfl, hP, hE⟩ := hv
  have hx := B.exec
  have hb := B.bytes
  have hr := B.returns
  have hts := atoms_spec (ws := zw_zc_X11_item) B.pre
  have hown : s.vm.findClass RX11 = some m.cls := findClass_of_methodNamed B.named
  have hlocks := B.notSynchronized
  have hK := hE.k
  have hP : va_P D vwCl [(h0, .inr (11, [.ref b, .ref d, .ref lo, .ref ma])), (d, .inr (2, [.ref f, .ref le, .ref it])), (le, .inl (cI, 4, .inl g))] s.heap := hP
  have hl := lv_entry ([.ref h0, .int r0, .int i0]) (n := 3) (Nat.le_of_ble_eq_true rfl)
  rw [lg_entry_eq]
  generalize (lg_sl ([.ref h0, .int r0, .int i0]) ++ List.replicate (3 - (lg_sl ([.ref h0, .int r0, .int i0])).length) Slot.unset).toArray = ls at hl ⊢
  have hl : lv_has ls 3 [(0, .ref h0), (1, .int r0), (2, .int i0)] := hl
  refine lv_aload_n hx hb dX11_item_0 rfl (lv_at hl 0 rfl) ?_
  refine va_get (D := D) (ci := 11) (v := .ref d) (C := RX11) (T := TX11) (N := 4) hx hb hts (fun _ h => List.mem_cons_of_mem _ (List.mem_append_left _ (List.mem_append_right _ h))) hown hK hP 0 rfl rfl 1 (by decide) (hts (.fieldLink RX11 22 "TemplateForge" "data" "LTemplateForge$Data;") (List.mem_of_getElem? (i := 1) rfl)) (fun _ h9 => h9) rfl dX11_item_1 ?_
  refine lv_iload_n hx hb dX11_item_4 rfl (lv_at hl 1 rfl) ?_
  refine lv_iload_n hx hb dX11_item_5 rfl (lv_at hl 2 rfl) ?_
  have hPc := hP.sub (ws' := [(d, .inr (2, [.ref f, .ref le, .ref it])), (le, .inl (cI, 4, .inl g))]) [1, 2] rfl
  refine vp_callSi (va_Run.run (va_runV (As := [.int r0, .int i0]) (rest := []) ⟨hx, hb, hml, hown, hts⟩ (zc_X2_itemOf l D cI cZ cP cF d f le it g r0 i0 hM) (cwV 2 hts zg_zc_X11_item_zc_X2_itemOf rfl rfl rfl (by decide +kernel) ⟨Nat.le_of_ble_eq_true rfl, Nat.le_of_ble_eq_true rfl⟩) ⟨zBR, va_recv hK hPc (ci := 2) (q0 := 0) rfl rfl, fun U hU hW => ⟨rfl, by rw [hU]; exact hPc, hE.warm hW⟩⟩ rfl rfl hl.1 rfl (lv_room (Nat.le_of_ble_eq_true rfl)) dX11_item_6 ⟨Nat.le_of_ble_eq_true rfl, Nat.le_of_ble_eq_true rfl⟩)) (fun r_6_1 h_6_1 => ?_)
  obtain rfl : r_6_1 = 0 := h_6_1
  exact W.iret (v := 0) hx hb hr (fun t ht hW => ⟨0, rfl, rfl, ht⟩) (fun q h => by cases h) dX11_item_9

def zw_zc_X11_run : List Cond := .code yX11_run cX11_run 5 (some .int) :: ([.fieldLink RX11 15 "TemplateForge" "book" "LTemplateForge$Book;", .code yX0_at cX0_at 2 (some (.object "TemplateForge$Program")), .fieldLink RX0 17 "TemplateForge$Book" "told" "I", .methodLink RX11 48 yX0_at, .instanceMethod yX0_at, .selects RX0 yX0_at yX0_at, .initialized RX0] ++ wsX110 ++ wsX00)
set_option maxRecDepth 100000 in
theorem zg_zc_X11_run_zc_X0_at : GoodIn zw_zc_X11_run (wsV RX11 48 RX0 yX0_at zw_zc_X0_at) := goodIn_r _ [4, 5, 6, 7, 2, 3, 12, 13] (by decide +kernel) (by decide +kernel)
set_option maxHeartbeats 4000000 in
set_option maxRecDepth 100000 in
theorem zc_X11_run (l : Launch) (D : va_G) (cI cZ cP cF : Nat) (h0 b d lo ma pr : Nat) (m0 a0 b0 c0 : Int32) : Met l yX11_run zw_zc_X11_run ({ frames := 1, cells := 0, slots := 0, locals := 21 }) (va_Pc [.ref h0, .int m0, .int a0, .int b0, .int c0] (fun U => va_P D vwCl [(h0, .inr (11, [.ref b, .ref d, .ref lo, .ref ma])), (b, .inr (0, [.ref pr, .int 0]))] U.heap ∧ zE D cI cZ cP cF U)) (vp_Si (fun r => r = -2)) 0 0 (fun _ => False) := by
  refine Met.ofW (cc := cX11_run) (maxL := 5) (ret := (some .int)) (by decide) rfl ?_
  intro p e s m args below meth c s₁ B hml hv
  obtain ⟨rfl, hP, hE⟩ := hv
  have hx := B.exec
  have hb := B.bytes
  have hr := B.returns
  have hts := atoms_spec (ws := zw_zc_X11_run) B.pre
  have hown : s.vm.findClass RX11 = some m.cls := findClass_of_methodNamed B.named
  have hlocks := B.notSynchronized
  have hK := hE.k
  have hP : va_P D vwCl [(h0, .inr (11, [.ref b, .ref d, .ref lo, .ref ma])), (b, .inr (0, [.ref pr, .int 0]))] s.heap := hP
  have hl := lv_entry ([.ref h0, .int m0, .int a0, .int b0, .int c0]) (n := 5) (Nat.le_of_ble_eq_true rfl)
  rw [lg_entry_eq]
  generalize (lg_sl ([.ref h0, .int m0, .int a0, .int b0, .int c0]) ++ List.replicate (5 - (lg_sl ([.ref h0, .int m0, .int a0, .int b0, .int c0])).length) Slot.unset).toArray = ls at hl ⊢
  have hl : lv_has ls 5 [(0, .ref h0), (1, .int m0), (2, .int a0), (3, .int b0), (4, .int c0)] := hl
  refine lv_aload_n hx hb dX11_run_0 rfl (lv_at hl 0 rfl) ?_
  refine va_get (D := D) (ci := 11) (v := .ref b) (C := RX11) (T := TX11) (N := 4) hx hb hts (fun _ h => List.mem_cons_of_mem _ (List.mem_append_left _ (List.mem_append_right _ h))) hown hK hP 0 rfl rfl 0 (by decide) (hts (.fieldLink RX11 15 "TemplateForge" "book" "LTemplateForge$Book;") (List.mem_of_getElem? (i := 1) rfl)) (fun _ h9 => h9) rfl dX11_run_1 ?_
  refine lv_iload_n hx hb dX11_run_4 rfl (lv_at hl 1 rfl) ?_
  have hPc := hP.sub (ws' := [(b, .inr (0, [.ref pr, .int 0]))]) [1] rfl
  refine va_csq (va_Run.run (va_runV (As := [.int m0]) (rest := []) ⟨hx, hb, hml, hown, hts⟩ (zc_X0_at l D cI cZ cP cF b pr m0) (cwV 1 hts zg_zc_X11_run_zc_X0_at rfl rfl rfl (by decide +kernel) ⟨Nat.le_of_ble_eq_true rfl, Nat.le_of_ble_eq_true rfl⟩) ⟨zBR, va_recv hK hPc (ci := 0) (q0 := 0) rfl rfl, fun U hU hW => ⟨rfl, by rw [hU]; exact hPc, hE.warm hW⟩⟩ rfl rfl hl.1 rfl (lv_room (Nat.le_of_ble_eq_true rfl)) dX11_run_5 ⟨Nat.le_of_ble_eq_true rfl, Nat.le_of_ble_eq_true rfl⟩)) (fun r_5_1 h_5_1 => ?_)
  obtain rfl : r_5_1 = none := h_5_1
  refine lv_ifnonnullN hx hb dX11_run_8 ?_
  refine lv_bipush (v := (-2)) hx hb dX11_run_11 (by decide) ?_
  exact W.iret (v := (-2)) hx hb hr (fun t ht hW => ⟨(-2), rfl, rfl, ht⟩) (fun q h => by cases h) dX11_run_13

def zw_zc_X11_answer : List Cond := .code yX11_answer cX11_answer 1 (some .int) :: ([.fieldLink RX11 40 "TemplateForge" "machine" "LTemplateForge$Machine;", .fieldLink RX11 88 "TemplateForge$Machine" "tally" "LTemplateForge$Tally;", .fieldLink RX11 101 "TemplateForge$Tally" "returned" "I"] ++ wsX110 ++ wsX70 ++ wsX100)
set_option maxHeartbeats 4000000 in
set_option maxRecDepth 100000 in
theorem zc_X11_answer (l : Launch) (D : va_G) (cI cZ cP cF : Nat) (h0 b d lo ma sm ta fr ha tr : Nat) : Met l yX11_answer zw_zc_X11_answer ({ frames := 0, cells := 0, slots := 0, locals := 0 }) (va_Pc [.ref h0] (fun U => va_P D vwCl [(h0, .inr (11, [.ref b, .ref d, .ref lo, .ref ma])), (ma, .inr (7, [.ref b, .ref d, .ref sm, .ref ta, .ref fr, .ref ha, .int 0, .int 0, .int 0, .int 0])), (ta, .inr (10, [.int 0, .int 0, .int 0, .int 0, .int 0, .int 0, .ref tr]))] U.heap ∧ zE D cI cZ cP cF U)) (vp_Si (fun r => r = 0)) 0 0 (fun _ => False) := by
  refine Met.ofW (cc := cX11_answer) (maxL := 1) (ret := (some .int)) (by decide) rfl ?_
  intro p e s m args below meth c s₁ B hml hv
  obtain ⟨rfl, hP, hE⟩ := hv
  have hx := B.exec
  have hb := B.bytes
  have hr := B.returns
  have hts := atoms_spec (ws := zw_zc_X11_answer) B.pre
  have hown : s.vm.findClass RX11 = some m.cls := findClass_of_methodNamed B.named
  have hlocks := B.notSynchronized
  have hK := hE.k
  have hP : va_P D vwCl [(h0, .inr (11, [.ref b, .ref d, .ref lo, .ref ma])), (ma, .inr (7, [.ref b, .ref d, .ref sm, .ref ta, .ref fr, .ref ha, .int 0, .int 0, .int 0, .int 0])), (ta, .inr (10, [.int 0, .int 0, .int 0, .int 0, .int 0, .int 0, .ref tr]))] s.heap := hP
  have hl := lv_entry ([.ref h0]) (n := 1) (Nat.le_of_ble_eq_true rfl)
  rw [lg_entry_eq]
  generalize (lg_sl ([.ref h0]) ++ List.replicate (1 - (lg_sl ([.ref h0])).length) Slot.unset).toArray = ls at hl ⊢
  have hl : lv_has ls 1 [(0, .ref h0)] := hl
  refine lv_aload_n hx hb dX11_answer_0 rfl (lv_at hl 0 rfl) ?_
  refine va_get (D := D) (ci := 11) (v := .ref ma) (C := RX11) (T := TX11) (N := 4) hx hb hts (fun _ h => List.mem_cons_of_mem _ (List.mem_append_left _ (List.mem_append_left _ (List.mem_append_right _ h)))) hown hK hP 0 rfl rfl 3 (by decide) (hts (.fieldLink RX11 40 "TemplateForge" "machine" "LTemplateForge$Machine;") (List.mem_of_getElem? (i := 1) rfl)) (fun _ h9 => h9) rfl dX11_answer_1 ?_
  refine va_get (D := D) (ci := 7) (v := .ref ta) (C := RX7) (T := TX7) (N := 10) hx hb hts (fun _ h => List.mem_cons_of_mem _ (List.mem_append_left _ (List.mem_append_right _ h))) hown hK hP 1 rfl rfl 3 (by decide) (hts (.fieldLink RX11 88 "TemplateForge$Machine" "tally" "LTemplateForge$Tally;") (List.mem_of_getElem? (i := 2) rfl)) (fun _ h9 => h9) rfl dX11_answer_4 ?_
  refine va_get (D := D) (ci := 10) (v := .int 0) (C := RX10) (T := TX10) (N := 7) hx hb hts (fun _ h => List.mem_cons_of_mem _ (List.mem_append_right _ h)) hown hK hP 2 rfl rfl 5 (by decide) (hts (.fieldLink RX11 101 "TemplateForge$Tally" "returned" "I") (List.mem_of_getElem? (i := 3) rfl)) (fun _ h9 => h9) rfl dX11_answer_7 ?_
  exact W.iret (v := 0) hx hb hr (fun t ht hW => ⟨0, rfl, rfl, ht⟩) (fun q h => by cases h) dX11_answer_10

def zw_zc_X11_trap : List Cond := .code yX11_trap cX11_trap 2 (some .int) :: ([.fieldLink RX11 40 "TemplateForge" "machine" "LTemplateForge$Machine;", .fieldLink RX11 88 "TemplateForge$Machine" "tally" "LTemplateForge$Tally;", .code yX10_ofTrap cX10_ofTrap 2 (some .int), .fieldLink RX10 9 "TemplateForge$Tally" "trap" "[I", .methodLink RX11 104 yX10_ofTrap, .instanceMethod yX10_ofTrap, .selects RX10 yX10_ofTrap yX10_ofTrap, .initialized RX10] ++ wsX110 ++ wsX70 ++ wsX100)
set_option maxRecDepth 100000 in
theorem zg_zc_X11_trap_zc_X10_ofTrap : GoodIn zw_zc_X11_trap (wsV RX11 104 RX10 yX10_ofTrap zw_zc_X10_ofTrap) := goodIn_r _ [5, 6, 7, 8, 3, 4, 23, 24, 25, 26, 27, 28, 29] (by decide +kernel) (by decide +kernel)
set_option maxHeartbeats 4000000 in
set_option maxRecDepth 100000 in
theorem zc_X11_trap (l : Launch) (D : va_G) (cI cZ cP cF : Nat) (h0 b d lo ma sm ta fr ha tr : Nat) (w0 : Int32) : Met l yX11_trap zw_zc_X11_trap ({ frames := 1, cells := 0, slots := 0, locals := 21 }) (va_Pc [.ref h0, .int w0] (fun U => va_P D vwCl [(h0, .inr (11, [.ref b, .ref d, .ref lo, .ref ma])), (ma, .inr (7, [.ref b, .ref d, .ref sm, .ref ta, .ref fr, .ref ha, .int 0, .int 0, .int 0, .int 0])), (ta, .inr (10, [.int 0, .int 0, .int 0, .int 0, .int 0, .int 0, .ref tr])), (tr, .inl (cI, 4, .inl (fun _ => 0)))] U.heap ∧ zE D cI cZ cP cF U)) (vp_Si (fun r => r = zsel w0 4 (-2) 0)) 0 0 (fun _ => False) := by
  refine Met.ofW (cc := cX11_trap) (maxL := 2) (ret := (some .int)) (by decide) rfl ?_
  intro p e s m args below meth c s₁ B hml hv
  obtain ⟨rfl, hP, hE⟩ := hv
  have hx := B.exec
  have hb := B.bytes
  have hr := B.returns
  have hts := atoms_spec (ws := zw_zc_X11_trap) B.pre
  have hown : s.vm.findClass RX11 = some m.cls := findClass_of_methodNamed B.named
  have hlocks := B.notSynchronized
  have hK := hE.k
  have hP : va_P D vwCl [(h0, .inr (11, [.ref b, .ref d, .ref lo, .ref ma])), (ma, .inr (7, [.ref b, .ref d, .ref sm, .ref ta, .ref fr, .ref ha, .int 0, .int 0, .int 0, .int 0])), (ta, .inr (10, [.int 0, .int 0, .int 0, .int 0, .int 0, .int 0, .ref tr])), (tr, .inl (cI, 4, .inl (fun _ => 0)))] s.heap := hP
  have hl := lv_entry ([.ref h0, .int w0]) (n := 2) (Nat.le_of_ble_eq_true rfl)
  rw [lg_entry_eq]
  generalize (lg_sl ([.ref h0, .int w0]) ++ List.replicate (2 - (lg_sl ([.ref h0, .int w0])).length) Slot.unset).toArray = ls at hl ⊢
  have hl : lv_has ls 2 [(0, .ref h0), (1, .int w0)] := hl
  refine lv_aload_n hx hb dX11_trap_0 rfl (lv_at hl 0 rfl) ?_
  refine va_get (D := D) (ci := 11) (v := .ref ma) (C := RX11) (T := TX11) (N := 4) hx hb hts (fun _ h => List.mem_cons_of_mem _ (List.mem_append_left _ (List.mem_append_left _ (List.mem_append_right _ h)))) hown hK hP 0 rfl rfl 3 (by decide) (hts (.fieldLink RX11 40 "TemplateForge" "machine" "LTemplateForge$Machine;") (List.mem_of_getElem? (i := 1) rfl)) (fun _ h9 => h9) rfl dX11_trap_1 ?_
  refine va_get (D := D) (ci := 7) (v := .ref ta) (C := RX7) (T := TX7) (N := 10) hx hb hts (fun _ h => List.mem_cons_of_mem _ (List.mem_append_left _ (List.mem_append_right _ h))) hown hK hP 1 rfl rfl 3 (by decide) (hts (.fieldLink RX11 88 "TemplateForge$Machine" "tally" "LTemplateForge$Tally;") (List.mem_of_getElem? (i := 2) rfl)) (fun _ h9 => h9) rfl dX11_trap_4 ?_
  refine lv_iload_n hx hb dX11_trap_7 rfl (lv_at hl 1 rfl) ?_
  have hPc := hP.sub (ws' := [(ta, .inr (10, [.int 0, .int 0, .int 0, .int 0, .int 0, .int 0, .ref tr])), (tr, .inl (cI, 4, .inl (fun _ => 0)))]) [2, 3] rfl
  refine vp_callSi (va_Run.run (va_runV (As := [.int w0]) (rest := []) ⟨hx, hb, hml, hown, hts⟩ (zc_X10_ofTrap l D cI cZ cP cF ta tr w0) (cwV 1 hts zg_zc_X11_trap_zc_X10_ofTrap rfl rfl rfl (by decide +kernel) ⟨Nat.le_of_ble_eq_true rfl, Nat.le_of_ble_eq_true rfl⟩) ⟨zBR, va_recv hK hPc (ci := 10) (q0 := 0) rfl rfl, fun U hU hW => ⟨rfl, by rw [hU]; exact hPc, hE.warm hW⟩⟩ rfl rfl hl.1 rfl (lv_room (Nat.le_of_ble_eq_true rfl)) dX11_trap_8 ⟨Nat.le_of_ble_eq_true rfl, Nat.le_of_ble_eq_true rfl⟩)) (fun r_8_1 h_8_1 => ?_)
  obtain ⟨z_8, k_8⟩ : ∃ z, z = r_8_1 := ⟨_, rfl⟩
  rw [← k_8] at h_8_1 ⊢
  have hz_8 := h_8_1
  exact W.iret (v := z_8) hx hb hr (fun t ht hW => ⟨z_8, rfl, hz_8, ht⟩) (fun q h => by cases h) dX11_trap_11

def zw_zc_X11_of : List Cond := .code yX11_of cX11_of 4 (some .int) :: ([.fieldLink RX11 15 "TemplateForge" "book" "LTemplateForge$Book;", .code yX0_at cX0_at 2 (some (.object "TemplateForge$Program")), .fieldLink RX0 17 "TemplateForge$Book" "told" "I", .methodLink RX11 48 yX0_at, .instanceMethod yX0_at, .selects RX0 yX0_at yX0_at, .initialized RX0] ++ wsX110 ++ wsX00)
set_option maxRecDepth 100000 in
theorem zg_zc_X11_of_zc_X0_at : GoodIn zw_zc_X11_of (wsV RX11 48 RX0 yX0_at zw_zc_X0_at) := goodIn_r _ [4, 5, 6, 7, 2, 3, 12, 13] (by decide +kernel) (by decide +kernel)
set_option maxHeartbeats 4000000 in
set_option maxRecDepth 100000 in
theorem zc_X11_of (l : Launch) (D : va_G) (cI cZ cP cF : Nat) (h0 b d lo ma pr : Nat) (m0 w0 : Int32) : Met l yX11_of zw_zc_X11_of ({ frames := 1, cells := 0, slots := 0, locals := 21 }) (va_Pc [.ref h0, .int m0, .int w0] (fun U => va_P D vwCl [(h0, .inr (11, [.ref b, .ref d, .ref lo, .ref ma])), (b, .inr (0, [.ref pr, .int 0]))] U.heap ∧ zE D cI cZ cP cF U)) (vp_Si (fun r => r = -2)) 0 0 (fun _ => False) := by
  refine Met.ofW (cc := cX11_of) (maxL := 4) (ret := (some .int)) (by decide) rfl ?_
  intro p e s m args below meth c s₁ B hml hv
  obtain ⟨rfl, hP, hE⟩ := hv
  have hx := B.exec
  have hb := B.bytes
  have hr := B.returns
  have hts := atoms_spec (ws := zw_zc_X11_of) B.pre
  have hown : s.vm.findClass RX11 = some m.cls := findClass_of_methodNamed B.named
  have hlocks := B.notSynchronized
  have hK := hE.k
  have hP : va_P D vwCl [(h0, .inr (11, [.ref b, .ref d, .ref lo, .ref ma])), (b, .inr (0, [.ref pr, .int 0]))] s.heap := hP
  have hl := lv_entry ([.ref h0, .int m0, .int w0]) (n := 4) (Nat.le_of_ble_eq_true rfl)
  rw [lg_entry_eq]
  generalize (lg_sl ([.ref h0, .int m0, .int w0]) ++ List.replicate (4 - (lg_sl ([.ref h0, .int m0, .int w0])).length) Slot.unset).toArray = ls at hl ⊢
  have hl : lv_has ls 4 [(0, .ref h0), (1, .int m0), (2, .int w0)] := hl
  refine lv_aload_n hx hb dX11_of_0 rfl (lv_at hl 0 rfl) ?_
  refine va_get (D := D) (ci := 11) (v := .ref b) (C := RX11) (T := TX11) (N := 4) hx hb hts (fun _ h => List.mem_cons_of_mem _ (List.mem_append_left _ (List.mem_append_right _ h))) hown hK hP 0 rfl rfl 0 (by decide) (hts (.fieldLink RX11 15 "TemplateForge" "book" "LTemplateForge$Book;") (List.mem_of_getElem? (i := 1) rfl)) (fun _ h9 => h9) rfl dX11_of_1 ?_
  refine lv_iload_n hx hb dX11_of_4 rfl (lv_at hl 1 rfl) ?_
  have hPc := hP.sub (ws' := [(b, .inr (0, [.ref pr, .int 0]))]) [1] rfl
  refine va_csq (va_Run.run (va_runV (As := [.int m0]) (rest := []) ⟨hx, hb, hml, hown, hts⟩ (zc_X0_at l D cI cZ cP cF b pr m0) (cwV 1 hts zg_zc_X11_of_zc_X0_at rfl rfl rfl (by decide +kernel) ⟨Nat.le_of_ble_eq_true rfl, Nat.le_of_ble_eq_true rfl⟩) ⟨zBR, va_recv hK hPc (ci := 0) (q0 := 0) rfl rfl, fun U hU hW => ⟨rfl, by rw [hU]; exact hPc, hE.warm hW⟩⟩ rfl rfl hl.1 rfl (lv_room (Nat.le_of_ble_eq_true rfl)) dX11_of_5 ⟨Nat.le_of_ble_eq_true rfl, Nat.le_of_ble_eq_true rfl⟩)) (fun r_5_1 h_5_1 => ?_)
  obtain rfl : r_5_1 = none := h_5_1
  refine lv_astore_nN (lv' := [(3, .null), (0, .ref h0), (1, .int m0), (2, .int w0)]) hx hb dX11_of_8 rfl hl (by decide) rfl (fun ls hl => ?_)
  refine lv_aload_nN hx hb dX11_of_9 rfl (lv_at hl 0 rfl) ?_
  refine lv_ifnonnullN hx hb dX11_of_10 ?_
  refine lv_bipush (v := (-2)) hx hb dX11_of_13 (by decide) ?_
  refine lv_goto (tgt := 23) hx hb dX11_of_15 (by decide) ?_
  exact W.iret (v := (-2)) hx hb hr (fun t ht hW => ⟨(-2), rfl, rfl, ht⟩) (fun q h => by cases h) dX11_of_23

def zw_zc_X11_part : List Cond := .code yX11_part cX11_part 5 (some .int) :: ([.fieldLink RX11 15 "TemplateForge" "book" "LTemplateForge$Book;", .code yX0_at cX0_at 2 (some (.object "TemplateForge$Program")), .fieldLink RX0 17 "TemplateForge$Book" "told" "I", .methodLink RX11 48 yX0_at, .instanceMethod yX0_at, .selects RX0 yX0_at yX0_at, .initialized RX0, .constant RX11 69 (-2147483648)] ++ wsX110 ++ wsX00)
set_option maxRecDepth 100000 in
theorem zg_zc_X11_part_zc_X0_at : GoodIn zw_zc_X11_part (wsV RX11 48 RX0 yX0_at zw_zc_X0_at) := goodIn_r _ [4, 5, 6, 7, 2, 3, 13, 14] (by decide +kernel) (by decide +kernel)
set_option maxHeartbeats 4000000 in
set_option maxRecDepth 100000 in
theorem zc_X11_part (l : Launch) (D : va_G) (cI cZ cP cF : Nat) (h0 b d lo ma pr : Nat) (m0 i0 w0 : Int32) : Met l yX11_part zw_zc_X11_part ({ frames := 1, cells := 0, slots := 0, locals := 21 }) (va_Pc [.ref h0, .int m0, .int i0, .int w0] (fun U => va_P D vwCl [(h0, .inr (11, [.ref b, .ref d, .ref lo, .ref ma])), (b, .inr (0, [.ref pr, .int 0]))] U.heap ∧ zE D cI cZ cP cF U)) (vp_Si (fun r => r = -2147483648)) 0 0 (fun _ => False) := by
  refine Met.ofW (cc := cX11_part) (maxL := 5) (ret := (some .int)) (by decide) rfl ?_
  intro p e s m args below meth c s₁ B hml hv
  obtain ⟨rfl, hP, hE⟩ := hv
  have hx := B.exec
  have hb := B.bytes
  have hr := B.returns
  have hts := atoms_spec (ws := zw_zc_X11_part) B.pre
  have hown : s.vm.findClass RX11 = some m.cls := findClass_of_methodNamed B.named
  have hlocks := B.notSynchronized
  have hK := hE.k
  have hP : va_P D vwCl [(h0, .inr (11, [.ref b, .ref d, .ref lo, .ref ma])), (b, .inr (0, [.ref pr, .int 0]))] s.heap := hP
  have hl := lv_entry ([.ref h0, .int m0, .int i0, .int w0]) (n := 5) (Nat.le_of_ble_eq_true rfl)
  rw [lg_entry_eq]
  generalize (lg_sl ([.ref h0, .int m0, .int i0, .int w0]) ++ List.replicate (5 - (lg_sl ([.ref h0, .int m0, .int i0, .int w0])).length) Slot.unset).toArray = ls at hl ⊢
  have hl : lv_has ls 5 [(0, .ref h0), (1, .int m0), (2, .int i0), (3, .int w0)] := hl
  refine lv_aload_n hx hb dX11_part_0 rfl (lv_at hl 0 rfl) ?_
  refine va_get (D := D) (ci := 11) (v := .ref b) (C := RX11) (T := TX11) (N := 4) hx hb hts (fun _ h => List.mem_cons_of_mem _ (List.mem_append_left _ (List.mem_append_right _ h))) hown hK hP 0 rfl rfl 0 (by decide) (hts (.fieldLink RX11 15 "TemplateForge" "book" "LTemplateForge$Book;") (List.mem_of_getElem? (i := 1) rfl)) (fun _ h9 => h9) rfl dX11_part_1 ?_
  refine lv_iload_n hx hb dX11_part_4 rfl (lv_at hl 1 rfl) ?_
  have hPc := hP.sub (ws' := [(b, .inr (0, [.ref pr, .int 0]))]) [1] rfl
  refine va_csq (va_Run.run (va_runV (As := [.int m0]) (rest := []) ⟨hx, hb, hml, hown, hts⟩ (zc_X0_at l D cI cZ cP cF b pr m0) (cwV 1 hts zg_zc_X11_part_zc_X0_at rfl rfl rfl (by decide +kernel) ⟨Nat.le_of_ble_eq_true rfl, Nat.le_of_ble_eq_true rfl⟩) ⟨zBR, va_recv hK hPc (ci := 0) (q0 := 0) rfl rfl, fun U hU hW => ⟨rfl, by rw [hU]; exact hPc, hE.warm hW⟩⟩ rfl rfl hl.1 rfl (lv_room (Nat.le_of_ble_eq_true rfl)) dX11_part_5 ⟨Nat.le_of_ble_eq_true rfl, Nat.le_of_ble_eq_true rfl⟩)) (fun r_5_1 h_5_1 => ?_)
  obtain rfl : r_5_1 = none := h_5_1
  refine lv_astoreN (lv' := [(4, .null), (0, .ref h0), (1, .int m0), (2, .int i0), (3, .int w0)]) hx hb dX11_part_8 hl (by decide) rfl (fun ls hl => ?_)
  refine lv_aloadN hx hb dX11_part_10 (lv_at hl 0 rfl) ?_
  refine lv_ifnullN (tgt := 26) hx hb dX11_part_12 (by decide) ?_
  refine lv_ldc hx hb hown (hts (.constant RX11 69 (-2147483648)) (List.mem_of_getElem? (i := 8) rfl)) dX11_part_26 ?_
  refine lv_goto (tgt := 44) hx hb dX11_part_28 (by decide) ?_
  exact W.iret (v := (-2147483648)) hx hb hr (fun t ht hW => ⟨(-2147483648), rfl, rfl, ht⟩) (fun q h => by cases h) dX11_part_44

def zw_zc_X11_varies : List Cond := .code yX11_varies cX11_varies 6 (some .int) :: ([.fieldLink RX11 15 "TemplateForge" "book" "LTemplateForge$Book;", .code yX0_at cX0_at 2 (some (.object "TemplateForge$Program")), .fieldLink RX0 17 "TemplateForge$Book" "told" "I", .methodLink RX11 48 yX0_at, .instanceMethod yX0_at, .selects RX0 yX0_at yX0_at, .initialized RX0] ++ wsX110 ++ wsX00)
set_option maxRecDepth 100000 in
theorem zg_zc_X11_varies_zc_X0_at : GoodIn zw_zc_X11_varies (wsV RX11 48 RX0 yX0_at zw_zc_X0_at) := goodIn_r _ [4, 5, 6, 7, 2, 3, 12, 13] (by decide +kernel) (by decide +kernel)
set_option maxHeartbeats 4000000 in
set_option maxRecDepth 100000 in
theorem zc_X11_varies (l : Launch) (D : va_G) (cI cZ cP cF : Nat) (h0 b d lo ma pr : Nat) (m0 x0 : Int32) : Met l yX11_varies zw_zc_X11_varies ({ frames := 1, cells := 0, slots := 0, locals := 21 }) (va_Pc [.ref h0, .int m0, .int x0] (fun U => va_P D vwCl [(h0, .inr (11, [.ref b, .ref d, .ref lo, .ref ma])), (b, .inr (0, [.ref pr, .int 0]))] U.heap ∧ zE D cI cZ cP cF U)) (vp_Si (fun r => r = -2)) 0 0 (fun _ => False) := by
  refine Met.ofW (cc := cX11_varies) (maxL := 6) (ret := (some .int)) (by decide) rfl ?_
  intro p e s m args below meth c s₁ B hml hv
  obtain ⟨rfl, hP, hE⟩ := hv
  have hx := B.exec
  have hb := B.bytes
  have hr := B.returns
  have hts := atoms_spec (ws := zw_zc_X11_varies) B.pre
  have hown : s.vm.findClass RX11 = some m.cls := findClass_of_methodNamed B.named
  have hlocks := B.notSynchronized
  have hK := hE.k
  have hP : va_P D vwCl [(h0, .inr (11, [.ref b, .ref d, .ref lo, .ref ma])), (b, .inr (0, [.ref pr, .int 0]))] s.heap := hP
  have hl := lv_entry ([.ref h0, .int m0, .int x0]) (n := 6) (Nat.le_of_ble_eq_true rfl)
  rw [lg_entry_eq]
  generalize (lg_sl ([.ref h0, .int m0, .int x0]) ++ List.replicate (6 - (lg_sl ([.ref h0, .int m0, .int x0])).length) Slot.unset).toArray = ls at hl ⊢
  have hl : lv_has ls 6 [(0, .ref h0), (1, .int m0), (2, .int x0)] := hl
  refine lv_aload_n hx hb dX11_varies_0 rfl (lv_at hl 0 rfl) ?_
  refine va_get (D := D) (ci := 11) (v := .ref b) (C := RX11) (T := TX11) (N := 4) hx hb hts (fun _ h => List.mem_cons_of_mem _ (List.mem_append_left _ (List.mem_append_right _ h))) hown hK hP 0 rfl rfl 0 (by decide) (hts (.fieldLink RX11 15 "TemplateForge" "book" "LTemplateForge$Book;") (List.mem_of_getElem? (i := 1) rfl)) (fun _ h9 => h9) rfl dX11_varies_1 ?_
  refine lv_iload_n hx hb dX11_varies_4 rfl (lv_at hl 1 rfl) ?_
  have hPc := hP.sub (ws' := [(b, .inr (0, [.ref pr, .int 0]))]) [1] rfl
  refine va_csq (va_Run.run (va_runV (As := [.int m0]) (rest := []) ⟨hx, hb, hml, hown, hts⟩ (zc_X0_at l D cI cZ cP cF b pr m0) (cwV 1 hts zg_zc_X11_varies_zc_X0_at rfl rfl rfl (by decide +kernel) ⟨Nat.le_of_ble_eq_true rfl, Nat.le_of_ble_eq_true rfl⟩) ⟨zBR, va_recv hK hPc (ci := 0) (q0 := 0) rfl rfl, fun U hU hW => ⟨rfl, by rw [hU]; exact hPc, hE.warm hW⟩⟩ rfl rfl hl.1 rfl (lv_room (Nat.le_of_ble_eq_true rfl)) dX11_varies_5 ⟨Nat.le_of_ble_eq_true rfl, Nat.le_of_ble_eq_true rfl⟩)) (fun r_5_1 h_5_1 => ?_)
  obtain rfl : r_5_1 = none := h_5_1
  refine lv_astore_nN (lv' := [(3, .null), (0, .ref h0), (1, .int m0), (2, .int x0)]) hx hb dX11_varies_8 rfl hl (by decide) rfl (fun ls hl => ?_)
  refine lv_iload_n hx hb dX11_varies_9 rfl (lv_at hl 3 rfl) ?_
  refine lv_if_lt (tgt := 22) hx hb dX11_varies_10 (by decide) (fun c_10 => ?_) (fun c_10 => ?_)
  · refine lv_iconst (v := 0) hx hb dX11_varies_22 (by decide) ?_
    refine lv_istore (lv' := [(4, .int 0), (3, .null), (0, .ref h0), (1, .int m0), (2, .int x0)]) hx hb dX11_varies_23 hl (by decide) rfl (fun ls hl => ?_)
    refine lv_iload_n hx hb dX11_varies_25 rfl (lv_at hl 4 rfl) ?_
    refine lv_bipush (v := 10) hx hb dX11_varies_26 (by decide) ?_
    refine lv_icmp_lt (tgt := 41) hx hb dX11_varies_28 (by decide) (fun c_28 => ?_) (fun c_28 => ?_)
    · refine lv_iconst (v := 0) hx hb dX11_varies_41 (by decide) ?_
      refine lv_istore (lv' := [(5, .int 0), (4, .int 0), (3, .null), (0, .ref h0), (1, .int m0), (2, .int x0)]) hx hb dX11_varies_42 hl (by decide) rfl (fun ls hl => ?_)
      refine lv_aload_nN hx hb dX11_varies_44 rfl (lv_at hl 2 rfl) ?_
      refine lv_ifnullN (tgt := 58) hx hb dX11_varies_45 (by decide) ?_
      refine lv_bipush (v := (-2)) hx hb dX11_varies_58 (by decide) ?_
      exact W.iret (v := (-2)) hx hb hr (fun t ht hW => ⟨(-2), rfl, rfl, ht⟩) (fun q h => by cases h) dX11_varies_60
    · refine lv_iload_n hx hb dX11_varies_31 rfl (lv_at hl 4 rfl) ?_
      refine lv_bipush (v := 18) hx hb dX11_varies_32 (by decide) ?_
      refine lv_icmp_ge (tgt := 41) hx hb dX11_varies_34 (by decide) (fun c_34 => ?_) (fun c_34 => ?_)
      · refine lv_iconst (v := 0) hx hb dX11_varies_41 (by decide) ?_
        refine lv_istore (lv' := [(5, .int 0), (4, .int 0), (3, .null), (0, .ref h0), (1, .int m0), (2, .int x0)]) hx hb dX11_varies_42 hl (by decide) rfl (fun ls hl => ?_)
        refine lv_aload_nN hx hb dX11_varies_44 rfl (lv_at hl 2 rfl) ?_
        refine lv_ifnullN (tgt := 58) hx hb dX11_varies_45 (by decide) ?_
        refine lv_bipush (v := (-2)) hx hb dX11_varies_58 (by decide) ?_
        exact W.iret (v := (-2)) hx hb hr (fun t ht hW => ⟨(-2), rfl, rfl, ht⟩) (fun q h => by cases h) dX11_varies_60
      · refine lv_iconst (v := 1) hx hb dX11_varies_37 (by decide) ?_
        refine lv_goto (tgt := 42) hx hb dX11_varies_38 (by decide) ?_
        refine lv_istore (lv' := [(5, .int 1), (4, .int 0), (3, .null), (0, .ref h0), (1, .int m0), (2, .int x0)]) hx hb dX11_varies_42 hl (by decide) rfl (fun ls hl => ?_)
        refine lv_aload_nN hx hb dX11_varies_44 rfl (lv_at hl 2 rfl) ?_
        refine lv_ifnullN (tgt := 58) hx hb dX11_varies_45 (by decide) ?_
        refine lv_bipush (v := (-2)) hx hb dX11_varies_58 (by decide) ?_
        exact W.iret (v := (-2)) hx hb hr (fun t ht hW => ⟨(-2), rfl, rfl, ht⟩) (fun q h => by cases h) dX11_varies_60
  · refine lv_iload_n hx hb dX11_varies_13 rfl (lv_at hl 3 rfl) ?_
    refine lv_iconst (v := 3) hx hb dX11_varies_14 (by decide) ?_
    refine lv_icmp_ge (tgt := 22) hx hb dX11_varies_15 (by decide) (fun c_15 => ?_) (fun c_15 => ?_)
    · refine lv_iconst (v := 0) hx hb dX11_varies_22 (by decide) ?_
      refine lv_istore (lv' := [(4, .int 0), (3, .null), (0, .ref h0), (1, .int m0), (2, .int x0)]) hx hb dX11_varies_23 hl (by decide) rfl (fun ls hl => ?_)
      refine lv_iload_n hx hb dX11_varies_25 rfl (lv_at hl 4 rfl) ?_
      refine lv_bipush (v := 10) hx hb dX11_varies_26 (by decide) ?_
      refine lv_icmp_lt (tgt := 41) hx hb dX11_varies_28 (by decide) (fun c_28 => ?_) (fun c_28 => ?_)
      · refine lv_iconst (v := 0) hx hb dX11_varies_41 (by decide) ?_
        refine lv_istore (lv' := [(5, .int 0), (4, .int 0), (3, .null), (0, .ref h0), (1, .int m0), (2, .int x0)]) hx hb dX11_varies_42 hl (by decide) rfl (fun ls hl => ?_)
        refine lv_aload_nN hx hb dX11_varies_44 rfl (lv_at hl 2 rfl) ?_
        refine lv_ifnullN (tgt := 58) hx hb dX11_varies_45 (by decide) ?_
        refine lv_bipush (v := (-2)) hx hb dX11_varies_58 (by decide) ?_
        exact W.iret (v := (-2)) hx hb hr (fun t ht hW => ⟨(-2), rfl, rfl, ht⟩) (fun q h => by cases h) dX11_varies_60
      · refine lv_iload_n hx hb dX11_varies_31 rfl (lv_at hl 4 rfl) ?_
        refine lv_bipush (v := 18) hx hb dX11_varies_32 (by decide) ?_
        refine lv_icmp_ge (tgt := 41) hx hb dX11_varies_34 (by decide) (fun c_34 => ?_) (fun c_34 => ?_)
        · refine lv_iconst (v := 0) hx hb dX11_varies_41 (by decide) ?_
          refine lv_istore (lv' := [(5, .int 0), (4, .int 0), (3, .null), (0, .ref h0), (1, .int m0), (2, .int x0)]) hx hb dX11_varies_42 hl (by decide) rfl (fun ls hl => ?_)
          refine lv_aload_nN hx hb dX11_varies_44 rfl (lv_at hl 2 rfl) ?_
          refine lv_ifnullN (tgt := 58) hx hb dX11_varies_45 (by decide) ?_
          refine lv_bipush (v := (-2)) hx hb dX11_varies_58 (by decide) ?_
          exact W.iret (v := (-2)) hx hb hr (fun t ht hW => ⟨(-2), rfl, rfl, ht⟩) (fun q h => by cases h) dX11_varies_60
        · refine lv_iconst (v := 1) hx hb dX11_varies_37 (by decide) ?_
          refine lv_goto (tgt := 42) hx hb dX11_varies_38 (by decide) ?_
          refine lv_istore (lv' := [(5, .int 1), (4, .int 0), (3, .null), (0, .ref h0), (1, .int m0), (2, .int x0)]) hx hb dX11_varies_42 hl (by decide) rfl (fun ls hl => ?_)
          refine lv_aload_nN hx hb dX11_varies_44 rfl (lv_at hl 2 rfl) ?_
          refine lv_ifnullN (tgt := 58) hx hb dX11_varies_45 (by decide) ?_
          refine lv_bipush (v := (-2)) hx hb dX11_varies_58 (by decide) ?_
          exact W.iret (v := (-2)) hx hb hr (fun t ht hW => ⟨(-2), rfl, rfl, ht⟩) (fun q h => by cases h) dX11_varies_60
    · refine lv_iconst (v := 1) hx hb dX11_varies_18 (by decide) ?_
      refine lv_goto (tgt := 23) hx hb dX11_varies_19 (by decide) ?_
      refine lv_istore (lv' := [(4, .int 1), (3, .null), (0, .ref h0), (1, .int m0), (2, .int x0)]) hx hb dX11_varies_23 hl (by decide) rfl (fun ls hl => ?_)
      refine lv_iload_n hx hb dX11_varies_25 rfl (lv_at hl 4 rfl) ?_
      refine lv_bipush (v := 10) hx hb dX11_varies_26 (by decide) ?_
      refine lv_icmp_lt (tgt := 41) hx hb dX11_varies_28 (by decide) (fun c_28 => ?_) (fun c_28 => ?_)
      · refine lv_iconst (v := 0) hx hb dX11_varies_41 (by decide) ?_
        refine lv_istore (lv' := [(5, .int 0), (4, .int 1), (3, .null), (0, .ref h0), (1, .int m0), (2, .int x0)]) hx hb dX11_varies_42 hl (by decide) rfl (fun ls hl => ?_)
        refine lv_aload_nN hx hb dX11_varies_44 rfl (lv_at hl 2 rfl) ?_
        refine lv_ifnullN (tgt := 58) hx hb dX11_varies_45 (by decide) ?_
        refine lv_bipush (v := (-2)) hx hb dX11_varies_58 (by decide) ?_
        exact W.iret (v := (-2)) hx hb hr (fun t ht hW => ⟨(-2), rfl, rfl, ht⟩) (fun q h => by cases h) dX11_varies_60
      · refine lv_iload_n hx hb dX11_varies_31 rfl (lv_at hl 4 rfl) ?_
        refine lv_bipush (v := 18) hx hb dX11_varies_32 (by decide) ?_
        refine lv_icmp_ge (tgt := 41) hx hb dX11_varies_34 (by decide) (fun c_34 => ?_) (fun c_34 => ?_)
        · refine lv_iconst (v := 0) hx hb dX11_varies_41 (by decide) ?_
          refine lv_istore (lv' := [(5, .int 0), (4, .int 1), (3, .null), (0, .ref h0), (1, .int m0), (2, .int x0)]) hx hb dX11_varies_42 hl (by decide) rfl (fun ls hl => ?_)
          refine lv_aload_nN hx hb dX11_varies_44 rfl (lv_at hl 2 rfl) ?_
          refine lv_ifnullN (tgt := 58) hx hb dX11_varies_45 (by decide) ?_
          refine lv_bipush (v := (-2)) hx hb dX11_varies_58 (by decide) ?_
          exact W.iret (v := (-2)) hx hb hr (fun t ht hW => ⟨(-2), rfl, rfl, ht⟩) (fun q h => by cases h) dX11_varies_60
        · refine lv_iconst (v := 1) hx hb dX11_varies_37 (by decide) ?_
          refine lv_goto (tgt := 42) hx hb dX11_varies_38 (by decide) ?_
          refine lv_istore (lv' := [(5, .int 1), (4, .int 1), (3, .null), (0, .ref h0), (1, .int m0), (2, .int x0)]) hx hb dX11_varies_42 hl (by decide) rfl (fun ls hl => ?_)
          refine lv_aload_nN hx hb dX11_varies_44 rfl (lv_at hl 2 rfl) ?_
          refine lv_ifnullN (tgt := 58) hx hb dX11_varies_45 (by decide) ?_
          refine lv_bipush (v := (-2)) hx hb dX11_varies_58 (by decide) ?_
          exact W.iret (v := (-2)) hx hb hr (fun t ht hW => ⟨(-2), rfl, rfl, ht⟩) (fun q h => by cases h) dX11_varies_60

def zw_zc_X11_depth : List Cond := .code yX11_depth cX11_depth 4 (some .int) :: ([.fieldLink RX11 15 "TemplateForge" "book" "LTemplateForge$Book;", .code yX0_at cX0_at 2 (some (.object "TemplateForge$Program")), .fieldLink RX0 17 "TemplateForge$Book" "told" "I", .methodLink RX11 48 yX0_at, .instanceMethod yX0_at, .selects RX0 yX0_at yX0_at, .initialized RX0] ++ wsX110 ++ wsX00)
set_option maxRecDepth 100000 in
theorem zg_zc_X11_depth_zc_X0_at : GoodIn zw_zc_X11_depth (wsV RX11 48 RX0 yX0_at zw_zc_X0_at) := goodIn_r _ [4, 5, 6, 7, 2, 3, 12, 13] (by decide +kernel) (by decide +kernel)
set_option maxHeartbeats 4000000 in
set_option maxRecDepth 100000 in
theorem zc_X11_depth (l : Launch) (D : va_G) (cI cZ cP cF : Nat) (h0 b d lo ma pr : Nat) (m0 i0 : Int32) : Met l yX11_depth zw_zc_X11_depth ({ frames := 1, cells := 0, slots := 0, locals := 21 }) (va_Pc [.ref h0, .int m0, .int i0] (fun U => va_P D vwCl [(h0, .inr (11, [.ref b, .ref d, .ref lo, .ref ma])), (b, .inr (0, [.ref pr, .int 0]))] U.heap ∧ zE D cI cZ cP cF U)) (vp_Si (fun r => r = -2)) 0 0 (fun _ => False) := by
  refine Met.ofW (cc := cX11_depth) (maxL := 4) (ret := (some .int)) (by decide) rfl ?_
  intro p e s m args below meth c s₁ B hml hv
  obtain ⟨rfl, hP, hE⟩ := hv
  have hx := B.exec
  have hb := B.bytes
  have hr := B.returns
  have hts := atoms_spec (ws := zw_zc_X11_depth) B.pre
  have hown : s.vm.findClass RX11 = some m.cls := findClass_of_methodNamed B.named
  have hlocks := B.notSynchronized
  have hK := hE.k
  have hP : va_P D vwCl [(h0, .inr (11, [.ref b, .ref d, .ref lo, .ref ma])), (b, .inr (0, [.ref pr, .int 0]))] s.heap := hP
  have hl := lv_entry ([.ref h0, .int m0, .int i0]) (n := 4) (Nat.le_of_ble_eq_true rfl)
  rw [lg_entry_eq]
  generalize (lg_sl ([.ref h0, .int m0, .int i0]) ++ List.replicate (4 - (lg_sl ([.ref h0, .int m0, .int i0])).length) Slot.unset).toArray = ls at hl ⊢
  have hl : lv_has ls 4 [(0, .ref h0), (1, .int m0), (2, .int i0)] := hl
  refine lv_aload_n hx hb dX11_depth_0 rfl (lv_at hl 0 rfl) ?_
  refine va_get (D := D) (ci := 11) (v := .ref b) (C := RX11) (T := TX11) (N := 4) hx hb hts (fun _ h => List.mem_cons_of_mem _ (List.mem_append_left _ (List.mem_append_right _ h))) hown hK hP 0 rfl rfl 0 (by decide) (hts (.fieldLink RX11 15 "TemplateForge" "book" "LTemplateForge$Book;") (List.mem_of_getElem? (i := 1) rfl)) (fun _ h9 => h9) rfl dX11_depth_1 ?_
  refine lv_iload_n hx hb dX11_depth_4 rfl (lv_at hl 1 rfl) ?_
  have hPc := hP.sub (ws' := [(b, .inr (0, [.ref pr, .int 0]))]) [1] rfl
  refine va_csq (va_Run.run (va_runV (As := [.int m0]) (rest := []) ⟨hx, hb, hml, hown, hts⟩ (zc_X0_at l D cI cZ cP cF b pr m0) (cwV 1 hts zg_zc_X11_depth_zc_X0_at rfl rfl rfl (by decide +kernel) ⟨Nat.le_of_ble_eq_true rfl, Nat.le_of_ble_eq_true rfl⟩) ⟨zBR, va_recv hK hPc (ci := 0) (q0 := 0) rfl rfl, fun U hU hW => ⟨rfl, by rw [hU]; exact hPc, hE.warm hW⟩⟩ rfl rfl hl.1 rfl (lv_room (Nat.le_of_ble_eq_true rfl)) dX11_depth_5 ⟨Nat.le_of_ble_eq_true rfl, Nat.le_of_ble_eq_true rfl⟩)) (fun r_5_1 h_5_1 => ?_)
  obtain rfl : r_5_1 = none := h_5_1
  refine lv_astore_nN (lv' := [(3, .null), (0, .ref h0), (1, .int m0), (2, .int i0)]) hx hb dX11_depth_8 rfl hl (by decide) rfl (fun ls hl => ?_)
  refine lv_aload_nN hx hb dX11_depth_9 rfl (lv_at hl 0 rfl) ?_
  refine lv_ifnullN (tgt := 21) hx hb dX11_depth_10 (by decide) ?_
  refine lv_bipush (v := (-2)) hx hb dX11_depth_21 (by decide) ?_
  exact W.iret (v := (-2)) hx hb hr (fun t ht hW => ⟨(-2), rfl, rfl, ht⟩) (fun q h => by cases h) dX11_depth_23

def zw_zc_X11_count : List Cond := .code yX11_count cX11_count 3 (some .int) :: ([.fieldLink RX11 40 "TemplateForge" "machine" "LTemplateForge$Machine;", .fieldLink RX11 88 "TemplateForge$Machine" "tally" "LTemplateForge$Tally;", .fieldLink RX11 15 "TemplateForge" "book" "LTemplateForge$Book;", .fieldLink RX11 136 "TemplateForge$Book" "told" "I", .fieldLink RX11 92 "TemplateForge$Tally" "runs" "I", .fieldLink RX11 139 "TemplateForge$Tally" "steps" "I", .fieldLink RX11 142 "TemplateForge$Tally" "calls" "I", .fieldLink RX11 145 "TemplateForge$Tally" "coded" "I", .fieldLink RX11 148 "TemplateForge$Tally" "failed" "I"] ++ wsX110 ++ wsX70 ++ wsX00 ++ wsX100)
set_option maxHeartbeats 4000000 in
set_option maxRecDepth 100000 in
theorem zc_X11_count (l : Launch) (D : va_G) (cI cZ cP cF : Nat) (h0 b d lo ma pr sm ta fr ha tr : Nat) (w0 : Int32) : Met l yX11_count zw_zc_X11_count ({ frames := 0, cells := 0, slots := 0, locals := 0 }) (va_Pc [.ref h0, .int w0] (fun U => va_P D vwCl [(h0, .inr (11, [.ref b, .ref d, .ref lo, .ref ma])), (b, .inr (0, [.ref pr, .int 0])), (ma, .inr (7, [.ref b, .ref d, .ref sm, .ref ta, .ref fr, .ref ha, .int 0, .int 0, .int 0, .int 0])), (ta, .inr (10, [.int 0, .int 0, .int 0, .int 0, .int 0, .int 0, .ref tr]))] U.heap ∧ zE D cI cZ cP cF U)) (vp_Si (fun r => r = zcount w0)) 0 0 (fun _ => False) := by
  refine Met.ofW (cc := cX11_count) (maxL := 3) (ret := (some .int)) (by decide) rfl ?_
  intro p e s m args below meth c s₁ B hml hv
  obtain ⟨rfl, hP, hE⟩ := hv
  have hx := B.exec
  have hb := B.bytes
  have hr := B.returns
  have hts := atoms_spec (ws := zw_zc_X11_count) B.pre
  have hown : s.vm.findClass RX11 = some m.cls := findClass_of_methodNamed B.named
  have hlocks := B.notSynchronized
  have hK := hE.k
  have hP : va_P D vwCl [(h0, .inr (11, [.ref b, .ref d, .ref lo, .ref ma])), (b, .inr (0, [.ref pr, .int 0])), (ma, .inr (7, [.ref b, .ref d, .ref sm, .ref ta, .ref fr, .ref ha, .int 0, .int 0, .int 0, .int 0])), (ta, .inr (10, [.int 0, .int 0, .int 0, .int 0, .int 0, .int 0, .ref tr]))] s.heap := hP
  have hl := lv_entry ([.ref h0, .int w0]) (n := 3) (Nat.le_of_ble_eq_true rfl)
  rw [lg_entry_eq]
  generalize (lg_sl ([.ref h0, .int w0]) ++ List.replicate (3 - (lg_sl ([.ref h0, .int w0])).length) Slot.unset).toArray = ls at hl ⊢
  have hl : lv_has ls 3 [(0, .ref h0), (1, .int w0)] := hl
  refine lv_aload_n hx hb dX11_count_0 rfl (lv_at hl 0 rfl) ?_
  refine va_get (D := D) (ci := 11) (v := .ref ma) (C := RX11) (T := TX11) (N := 4) hx hb hts (fun _ h => List.mem_cons_of_mem _ (List.mem_append_left _ (List.mem_append_left _ (List.mem_append_left _ (List.mem_append_right _ h))))) hown hK hP 0 rfl rfl 3 (by decide) (hts (.fieldLink RX11 40 "TemplateForge" "machine" "LTemplateForge$Machine;") (List.mem_of_getElem? (i := 1) rfl)) (fun _ h9 => h9) rfl dX11_count_1 ?_
  refine va_get (D := D) (ci := 7) (v := .ref ta) (C := RX7) (T := TX7) (N := 10) hx hb hts (fun _ h => List.mem_cons_of_mem _ (List.mem_append_left _ (List.mem_append_left _ (List.mem_append_right _ h)))) hown hK hP 2 rfl rfl 3 (by decide) (hts (.fieldLink RX11 88 "TemplateForge$Machine" "tally" "LTemplateForge$Tally;") (List.mem_of_getElem? (i := 2) rfl)) (fun _ h9 => h9) rfl dX11_count_4 ?_
  refine lv_astore_n (lv' := [(2, .ref ta), (0, .ref h0), (1, .int w0)]) hx hb dX11_count_7 rfl hl (by decide) rfl (fun ls hl => ?_)
  refine lv_iload_n hx hb dX11_count_8 rfl (lv_at hl 2 rfl) ?_
  rcases z_tab5 w0 with h_out | h_in | h_in | h_in | h_in | h_in | h_in
  · refine lv_tableOut (tgt := 81) hx hb dX11_count_9 h_out (by decide) ?_
    refine lv_bipush (v := (-2)) hx hb dX11_count_81 (by decide) ?_
    exact W.iret (v := (-2)) hx hb hr (fun t ht hW => ⟨(-2), rfl, by unfold zcount; rw [if_pos h_out], ht⟩) (fun q h => by cases h) dX11_count_83
  · refine lv_tableIn (off := 39) (tgt := 48) hx hb dX11_count_9 (by rw [h_in]; decide) (by rw [h_in]; decide) (by rw [h_in]; decide) (by decide) ?_
    refine lv_aload_n hx hb dX11_count_48 rfl (lv_at hl 1 rfl) ?_
    refine va_get (D := D) (ci := 11) (v := .ref b) (C := RX11) (T := TX11) (N := 4) hx hb hts (fun _ h => List.mem_cons_of_mem _ (List.mem_append_left _ (List.mem_append_left _ (List.mem_append_left _ (List.mem_append_right _ h))))) hown hK hP 0 rfl rfl 0 (by decide) (hts (.fieldLink RX11 15 "TemplateForge" "book" "LTemplateForge$Book;") (List.mem_of_getElem? (i := 3) rfl)) (fun _ h9 => h9) rfl dX11_count_49 ?_
    refine va_get (D := D) (ci := 0) (v := .int 0) (C := RX0) (T := TX0) (N := 2) hx hb hts (fun _ h => List.mem_cons_of_mem _ (List.mem_append_left _ (List.mem_append_right _ h))) hown hK hP 1 rfl rfl 1 (by decide) (hts (.fieldLink RX11 136 "TemplateForge$Book" "told" "I") (List.mem_of_getElem? (i := 4) rfl)) (fun _ h9 => h9) rfl dX11_count_52 ?_
    exact W.iret (v := 0) hx hb hr (fun t ht hW => ⟨0, rfl, by rw [h_in]; decide, ht⟩) (fun q h => by cases h) dX11_count_55
  · refine lv_tableIn (off := 47) (tgt := 56) hx hb dX11_count_9 (by rw [h_in]; decide) (by rw [h_in]; decide) (by rw [h_in]; decide) (by decide) ?_
    refine lv_aload_n hx hb dX11_count_56 rfl (lv_at hl 0 rfl) ?_
    refine va_get (D := D) (ci := 10) (v := .int 0) (C := RX10) (T := TX10) (N := 7) hx hb hts (fun _ h => List.mem_cons_of_mem _ (List.mem_append_right _ h)) hown hK hP 3 rfl rfl 0 (by decide) (hts (.fieldLink RX11 92 "TemplateForge$Tally" "runs" "I") (List.mem_of_getElem? (i := 5) rfl)) (fun _ h9 => h9) rfl dX11_count_57 ?_
    exact W.iret (v := 0) hx hb hr (fun t ht hW => ⟨0, rfl, by rw [h_in]; decide, ht⟩) (fun q h => by cases h) dX11_count_60
  · refine lv_tableIn (off := 52) (tgt := 61) hx hb dX11_count_9 (by rw [h_in]; decide) (by rw [h_in]; decide) (by rw [h_in]; decide) (by decide) ?_
    refine lv_aload_n hx hb dX11_count_61 rfl (lv_at hl 0 rfl) ?_
    refine va_get (D := D) (ci := 10) (v := .int 0) (C := RX10) (T := TX10) (N := 7) hx hb hts (fun _ h => List.mem_cons_of_mem _ (List.mem_append_right _ h)) hown hK hP 3 rfl rfl 1 (by decide) (hts (.fieldLink RX11 139 "TemplateForge$Tally" "steps" "I") (List.mem_of_getElem? (i := 6) rfl)) (fun _ h9 => h9) rfl dX11_count_62 ?_
    exact W.iret (v := 0) hx hb hr (fun t ht hW => ⟨0, rfl, by rw [h_in]; decide, ht⟩) (fun q h => by cases h) dX11_count_65
  · refine lv_tableIn (off := 57) (tgt := 66) hx hb dX11_count_9 (by rw [h_in]; decide) (by rw [h_in]; decide) (by rw [h_in]; decide) (by decide) ?_
    refine lv_aload_n hx hb dX11_count_66 rfl (lv_at hl 0 rfl) ?_
    refine va_get (D := D) (ci := 10) (v := .int 0) (C := RX10) (T := TX10) (N := 7) hx hb hts (fun _ h => List.mem_cons_of_mem _ (List.mem_append_right _ h)) hown hK hP 3 rfl rfl 2 (by decide) (hts (.fieldLink RX11 142 "TemplateForge$Tally" "calls" "I") (List.mem_of_getElem? (i := 7) rfl)) (fun _ h9 => h9) rfl dX11_count_67 ?_
    exact W.iret (v := 0) hx hb hr (fun t ht hW => ⟨0, rfl, by rw [h_in]; decide, ht⟩) (fun q h => by cases h) dX11_count_70
  · refine lv_tableIn (off := 62) (tgt := 71) hx hb dX11_count_9 (by rw [h_in]; decide) (by rw [h_in]; decide) (by rw [h_in]; decide) (by decide) ?_
    refine lv_aload_n hx hb dX11_count_71 rfl (lv_at hl 0 rfl) ?_
    refine va_get (D := D) (ci := 10) (v := .int 0) (C := RX10) (T := TX10) (N := 7) hx hb hts (fun _ h => List.mem_cons_of_mem _ (List.mem_append_right _ h)) hown hK hP 3 rfl rfl 3 (by decide) (hts (.fieldLink RX11 145 "TemplateForge$Tally" "coded" "I") (List.mem_of_getElem? (i := 8) rfl)) (fun _ h9 => h9) rfl dX11_count_72 ?_
    exact W.iret (v := 0) hx hb hr (fun t ht hW => ⟨0, rfl, by rw [h_in]; decide, ht⟩) (fun q h => by cases h) dX11_count_75
  · refine lv_tableIn (off := 67) (tgt := 76) hx hb dX11_count_9 (by rw [h_in]; decide) (by rw [h_in]; decide) (by rw [h_in]; decide) (by decide) ?_
    refine lv_aload_n hx hb dX11_count_76 rfl (lv_at hl 0 rfl) ?_
    refine va_get (D := D) (ci := 10) (v := .int 0) (C := RX10) (T := TX10) (N := 7) hx hb hts (fun _ h => List.mem_cons_of_mem _ (List.mem_append_right _ h)) hown hK hP 3 rfl rfl 4 (by decide) (hts (.fieldLink RX11 148 "TemplateForge$Tally" "failed" "I") (List.mem_of_getElem? (i := 9) rfl)) (fun _ h9 => h9) rfl dX11_count_77 ?_
    exact W.iret (v := 0) hx hb hr (fun t ht hW => ⟨0, rfl, by rw [h_in]; decide, ht⟩) (fun q h => by cases h) dX11_count_80

def zw_zc_X11_digest : List Cond := .code yX11_digest cX11_digest 5 (some .long) :: ([.fieldLink RX11 22 "TemplateForge" "data" "LTemplateForge$Data;", .constantLong RX11 151 (17), .code yX2_mixedInto cX2_mixedInto 5 (some .long), .constantLong RX2 34 (31), .code yX2_valueOf cX2_valueOf 2 (some .int), .fieldLink RX2 9 "TemplateForge$Data" "fields" "[I", .methodLink RX2 36 yX2_valueOf, .instanceMethod yX2_valueOf, .selects RX2 yX2_valueOf yX2_valueOf, .initialized RX2, .code yX2_lengthOf cX2_lengthOf 2 (some .int), .fieldLink RX2 15 "TemplateForge$Data" "lengths" "[I", .methodLink RX2 30 yX2_lengthOf, .instanceMethod yX2_lengthOf, .selects RX2 yX2_lengthOf yX2_lengthOf, .methodLink RX11 153 yX2_mixedInto, .instanceMethod yX2_mixedInto, .selects RX2 yX2_mixedInto yX2_mixedInto, .fieldLink RX11 40 "TemplateForge" "machine" "LTemplateForge$Machine;", .fieldLink RX11 88 "TemplateForge$Machine" "tally" "LTemplateForge$Tally;", .code yX10_mixedInto cX10_mixedInto 4 (some .long), .constantLong RX10 38 (31), .fieldLink RX10 31 "TemplateForge$Tally" "returned" "I", .fieldLink RX10 9 "TemplateForge$Tally" "trap" "[I", .methodLink RX11 157 yX10_mixedInto, .instanceMethod yX10_mixedInto, .selects RX10 yX10_mixedInto yX10_mixedInto, .initialized RX10, .fieldLink RX11 15 "TemplateForge" "book" "LTemplateForge$Book;", .fieldLink RX11 136 "TemplateForge$Book" "told" "I"] ++ wsX110 ++ wsX20 ++ wsX70 ++ wsX100 ++ wsX00)
set_option maxRecDepth 100000 in
theorem zg_zc_X11_digest_zc_X2_mixedInto : GoodIn zw_zc_X11_digest (wsV RX11 153 RX2 yX2_mixedInto zw_zc_X2_mixedInto) := goodIn_r _ [16, 17, 18, 10, 3, 4, 5, 6, 7, 8, 9, 10, 11, 12, 13, 14, 15, 35, 36, 37] (by decide +kernel) (by decide +kernel)
set_option maxRecDepth 100000 in
theorem zg_zc_X11_digest_zc_X10_mixedInto : GoodIn zw_zc_X11_digest (wsV RX11 157 RX10 yX10_mixedInto zw_zc_X10_mixedInto) := goodIn_r _ [25, 26, 27, 28, 21, 22, 23, 24, 48, 49, 50, 51, 52, 53, 54] (by decide +kernel) (by decide +kernel)
set_option maxHeartbeats 4000000 in
set_option maxRecDepth 100000 in
theorem zc_X11_digest (l : Launch) (D : va_G) (cI cZ cP cF : Nat) (h0 b d lo ma f le it sm ta fr ha tr pr : Nat) (g : Nat → Int32) (hM : zM4 g) : Met l yX11_digest zw_zc_X11_digest ({ frames := 2, cells := 0, slots := 0, locals := 45 }) (va_Pc [.ref h0] (fun U => va_P D vwCl [(h0, .inr (11, [.ref b, .ref d, .ref lo, .ref ma])), (d, .inr (2, [.ref f, .ref le, .ref it])), (f, .inl (cI, 8, .inl (fun _ => 0))), (le, .inl (cI, 4, .inl g)), (ma, .inr (7, [.ref b, .ref d, .ref sm, .ref ta, .ref fr, .ref ha, .int 0, .int 0, .int 0, .int 0])), (ta, .inr (10, [.int 0, .int 0, .int 0, .int 0, .int 0, .int 0, .ref tr])), (tr, .inl (cI, 4, .inl (fun _ => 0))), (b, .inr (0, [.ref pr, .int 0]))] U.heap ∧ zE D cI cZ cP cF U)) (vp_Sl (fun r => r = (-4484465200796314545))) 0 0 (fun _ => False) := by
  refine Met.ofW (cc := cX11_digest) (maxL := 5) (ret := (some .long)) (by decide) rfl ?_
  intro p e s m args below meth c s₁ B hml hv
  obtain ⟨rfl, hP, hE⟩ := hv
  have hx := B.exec
  have hb := B.bytes
  have hr := B.returns
  have hts := atoms_spec (ws := zw_zc_X11_digest) B.pre
  have hown : s.vm.findClass RX11 = some m.cls := findClass_of_methodNamed B.named
  have hlocks := B.notSynchronized
  have hK := hE.k
  have hP : va_P D vwCl [(h0, .inr (11, [.ref b, .ref d, .ref lo, .ref ma])), (d, .inr (2, [.ref f, .ref le, .ref it])), (f, .inl (cI, 8, .inl (fun _ => 0))), (le, .inl (cI, 4, .inl g)), (ma, .inr (7, [.ref b, .ref d, .ref sm, .ref ta, .ref fr, .ref ha, .int 0, .int 0, .int 0, .int 0])), (ta, .inr (10, [.int 0, .int 0, .int 0, .int 0, .int 0, .int 0, .ref tr])), (tr, .inl (cI, 4, .inl (fun _ => 0))), (b, .inr (0, [.ref pr, .int 0]))] s.heap := hP
  have hl := lv_entry ([.ref h0]) (n := 5) (Nat.le_of_ble_eq_true rfl)
  rw [lg_entry_eq]
  generalize (lg_sl ([.ref h0]) ++ List.replicate (5 - (lg_sl ([.ref h0])).length) Slot.unset).toArray = ls at hl ⊢
  have hl : lv_has ls 5 [(0, .ref h0)] := hl
  refine lv_aload_n hx hb dX11_digest_0 rfl (lv_at hl 0 rfl) ?_
  refine va_get (D := D) (ci := 11) (v := .ref d) (C := RX11) (T := TX11) (N := 4) hx hb hts (fun _ h => List.mem_cons_of_mem _ (List.mem_append_left _ (List.mem_append_left _ (List.mem_append_left _ (List.mem_append_left _ (List.mem_append_right _ h)))))) hown hK hP 0 rfl rfl 1 (by decide) (hts (.fieldLink RX11 22 "TemplateForge" "data" "LTemplateForge$Data;") (List.mem_of_getElem? (i := 1) rfl)) (fun _ h9 => h9) rfl dX11_digest_1 ?_
  refine lv_ldc2 hx hb hown (hts (.constantLong RX11 151 (17)) (List.mem_of_getElem? (i := 2) rfl)) dX11_digest_4 ?_
  have hPc := hP.sub (ws' := [(d, .inr (2, [.ref f, .ref le, .ref it])), (f, .inl (cI, 8, .inl (fun _ => 0))), (le, .inl (cI, 4, .inl g))]) [1, 2, 3] rfl
  refine vp_callSl (va_Run.run (va_runV (As := [.long 17]) (rest := []) ⟨hx, hb, hml, hown, hts⟩ (zc_X2_mixedInto l D cI cZ cP cF d f le it g hM) (cwV 1 hts zg_zc_X11_digest_zc_X2_mixedInto rfl rfl rfl (by decide +kernel) ⟨Nat.le_of_ble_eq_true rfl, Nat.le_of_ble_eq_true rfl⟩) ⟨zBR, va_recv hK hPc (ci := 2) (q0 := 0) rfl rfl, fun U hU hW => ⟨rfl, by rw [hU]; exact hPc, hE.warm hW⟩⟩ rfl rfl hl.1 rfl (lv_room (Nat.le_of_ble_eq_true rfl)) dX11_digest_7 ⟨Nat.le_of_ble_eq_true rfl, Nat.le_of_ble_eq_true rfl⟩)) (fun r_7_1 h_7_1 => ?_)
  obtain rfl : r_7_1 = (-5056476749304236463) := h_7_1
  refine lv_lstore_n (lv' := [(1, .long (-5056476749304236463)), (0, .ref h0)]) hx hb dX11_digest_10 rfl hl (by decide) rfl (fun ls hl => ?_)
  refine lv_aload_n hx hb dX11_digest_11 rfl (lv_at hl 1 rfl) ?_
  refine va_get (D := D) (ci := 11) (v := .ref ma) (C := RX11) (T := TX11) (N := 4) hx hb hts (fun _ h => List.mem_cons_of_mem _ (List.mem_append_left _ (List.mem_append_left _ (List.mem_append_left _ (List.mem_append_left _ (List.mem_append_right _ h)))))) hown hK hP 0 rfl rfl 3 (by decide) (hts (.fieldLink RX11 40 "TemplateForge" "machine" "LTemplateForge$Machine;") (List.mem_of_getElem? (i := 19) rfl)) (fun _ h9 => h9) rfl dX11_digest_12 ?_
  refine va_get (D := D) (ci := 7) (v := .ref ta) (C := RX7) (T := TX7) (N := 10) hx hb hts (fun _ h => List.mem_cons_of_mem _ (List.mem_append_left _ (List.mem_append_left _ (List.mem_append_right _ h)))) hown hK hP 4 rfl rfl 3 (by decide) (hts (.fieldLink RX11 88 "TemplateForge$Machine" "tally" "LTemplateForge$Tally;") (List.mem_of_getElem? (i := 20) rfl)) (fun _ h9 => h9) rfl dX11_digest_15 ?_
  refine lv_lload_n hx hb dX11_digest_18 rfl (lv_at hl 0 rfl) ?_
  have hPc := hP.sub (ws' := [(ta, .inr (10, [.int 0, .int 0, .int 0, .int 0, .int 0, .int 0, .ref tr])), (tr, .inl (cI, 4, .inl (fun _ => 0)))]) [5, 6] rfl
  refine vp_callSl (va_Run.run (va_runV (As := [.long (-5056476749304236463)]) (rest := []) ⟨hx, hb, hml, hown, hts⟩ (zc_X10_mixedInto l D cI cZ cP cF ta tr) (cwV 1 hts zg_zc_X11_digest_zc_X10_mixedInto rfl rfl rfl (by decide +kernel) ⟨Nat.le_of_ble_eq_true rfl, Nat.le_of_ble_eq_true rfl⟩) ⟨zBR, va_recv hK hPc (ci := 10) (q0 := 0) rfl rfl, fun U hU hW => ⟨rfl, by rw [hU]; exact hPc, hE.warm hW⟩⟩ rfl rfl hl.1 rfl (lv_room (Nat.le_of_ble_eq_true rfl)) dX11_digest_19 ⟨Nat.le_of_ble_eq_true rfl, Nat.le_of_ble_eq_true rfl⟩)) (fun r_19_2 h_19_2 => ?_)
  obtain rfl : r_19_2 = (-4484465200796314545) := h_19_2
  refine lv_lstore_n (lv' := [(1, .long (-4484465200796314545)), (0, .ref h0)]) hx hb dX11_digest_22 rfl hl (by decide) rfl (fun ls hl => ?_)
  refine lv_iconst (v := 0) hx hb dX11_digest_23 (by decide) ?_
  refine lv_istore_n (lv' := [(3, .int 0), (1, .long (-4484465200796314545)), (0, .ref h0)]) hx hb dX11_digest_24 rfl hl (by decide) rfl (fun ls hl => ?_)
  refine lv_iload_n hx hb dX11_digest_25 rfl (lv_at hl 0 rfl) ?_
  refine lv_aload_n hx hb dX11_digest_26 rfl (lv_at hl 2 rfl) ?_
  refine va_get (D := D) (ci := 11) (v := .ref b) (C := RX11) (T := TX11) (N := 4) hx hb hts (fun _ h => List.mem_cons_of_mem _ (List.mem_append_left _ (List.mem_append_left _ (List.mem_append_left _ (List.mem_append_left _ (List.mem_append_right _ h)))))) hown hK hP 0 rfl rfl 0 (by decide) (hts (.fieldLink RX11 15 "TemplateForge" "book" "LTemplateForge$Book;") (List.mem_of_getElem? (i := 29) rfl)) (fun _ h9 => h9) rfl dX11_digest_27 ?_
  refine va_get (D := D) (ci := 0) (v := .int 0) (C := RX0) (T := TX0) (N := 2) hx hb hts (fun _ h => List.mem_cons_of_mem _ (List.mem_append_right _ h)) hown hK hP 7 rfl rfl 1 (by decide) (hts (.fieldLink RX11 136 "TemplateForge$Book" "told" "I") (List.mem_of_getElem? (i := 30) rfl)) (fun _ h9 => h9) rfl dX11_digest_30 ?_
  refine lv_icmp_ge (tgt := 64) hx hb dX11_digest_33 (by decide) (fun _ => ?_) (fun c => absurd (by decide) c)
  refine lv_lload_n hx hb dX11_digest_64 rfl (lv_at hl 1 rfl) ?_
  exact W.lret (v := (-4484465200796314545)) hx hb hr (fun t ht hW => ⟨(-4484465200796314545), rfl, rfl, ht⟩) (fun q h => by cases h) dX11_digest_65
