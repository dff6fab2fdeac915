/-! what MAKES: copyOf, finish, tell -/
theorem cx_join {D : va_G} {cl : List vw_C} {A : Nat → Prop} {ws L' : va_W} {p a : Nat} {e0 e1 : va_E} {H H1 : Heap} (hP : va_P D cl ws H) (hD : va_D A ws) (hp : ws[p]? = some (a, e0)) (hk1 : ∀ q : Nat, q < H.size → ¬ va_A [(a, e0)] H.size q → H1[q]? = H[q]?) (hP1 : va_P D cl ((a, e1) :: L') H1) (hD1 : va_D (va_A [(a, e0)] H.size) ((a, e1) :: L')) (hA : ∀ q : Nat, va_A [(a, e0)] H.size q → A q) :
    va_P D cl (ws.set p (a, e1) ++ L') H1 ∧ va_D A (ws.set p (a, e1) ++ L') := by
  have hl := (List.getElem?_eq_some_iff.mp hp).1
  have lt : ∀ (t : Nat) (x : Nat × va_E), ws[t]? = some x → x.1 < H.size := fun t x h => (hP t x h).lt
  have far : ∀ (j : Nat) (x : Nat × va_E), L'[j]? = some x → H.size ≤ x.1 := by
    intro j x h
    rcases hD1.2 (j + 1) x h with ⟨k, e, hk⟩ | h2
    · cases k with
      | zero =>
        have h3 : (a, e0) = (x.1, e) := Option.some.inj hk
        have h4 : a = x.1 := congrArg Prod.fst h3
        exact absurd (hD1.1 0 (j + 1) (a, e1) x rfl h h4) (by omega)
      | succ k => simp at hk
    · exact h2
  have at2 : ∀ (t : Nat) (x : Nat × va_E), (ws.set p (a, e1))[t]? = some x → ∃ y : Nat × va_E, ws[t]? = some y ∧ y.1 = x.1 ∧ (t = p → x = (a, e1)) ∧ (t ≠ p → x = y) := by
    intro t x h
    by_cases ht : t = p
    · rw [ht, List.getElem?_set_self hl] at h
      obtain rfl := Option.some.inj h
      exact ⟨(a, e0), by rw [ht]; exact hp, rfl, fun _ => rfl, fun n => absurd ht n⟩
    · rw [List.getElem?_set_ne (Ne.symm ht)] at h
      exact ⟨x, h, rfl, fun n => absurd n ht, fun _ => rfl⟩
  have split : ∀ (t : Nat) (x : Nat × va_E), (ws.set p (a, e1) ++ L')[t]? = some x → (t < ws.length ∧ (ws.set p (a, e1))[t]? = some x) ∨ (ws.length ≤ t ∧ L'[t - ws.length]? = some x) := by
    intro t x h
    by_cases ht : t < ws.length
    · rw [List.getElem?_append_left (by rw [List.length_set]; exact ht)] at h
      exact Or.inl ⟨ht, h⟩
    · rw [List.getElem?_append_right (by rw [List.length_set]; omega), List.length_set] at h
      exact Or.inr ⟨by omega, h⟩
  refine ⟨?_, ?_, ?_⟩
  · intro t x h
    rcases split t x h with ⟨-, h⟩ | ⟨-, h⟩
    · obtain ⟨y, hy, e, e2, e3⟩ := at2 t x h
      by_cases ht : t = p
      · rw [e2 ht]; exact hP1 0 _ rfl
      · rw [e3 ht]
        refine (hP t y hy).kept (hk1 _ (lt t y hy) ?_)
        rintro (⟨k, e, hk⟩ | h2)
        · cases k with
          | zero =>
            have h3 : (a, e0) = (y.1, e) := Option.some.inj hk
            exact ht (hD.1 t p y _ hy hp (congrArg Prod.fst h3).symm)
          | succ k => simp at hk
        · exact absurd (lt t y hy) (Nat.not_lt.mpr h2)
    · exact hP1 _ x (show ((a, e1) :: L')[t - ws.length + 1]? = some x from h)
  · intro t t' x x' h h' e
    rcases split t x h with ⟨b1, h⟩ | ⟨b1, h⟩
    · obtain ⟨y, hy, e1, -⟩ := at2 t x h
      rcases split t' x' h' with ⟨b2, h'⟩ | ⟨b2, h'⟩
      · obtain ⟨y', hy', e2, -⟩ := at2 t' x' h'
        exact hD.1 t t' y y' hy hy' (by rw [e1, e2, e])
      · have := far _ x' h'
        have := lt t y hy
        omega
    · rcases split t' x' h' with ⟨b2, h'⟩ | ⟨b2, h'⟩
      · obtain ⟨y', hy', e2, -⟩ := at2 t' x' h'
        have := far _ x h
        have := lt t' y' hy'
        omega
      · have := hD1.1 (t - ws.length + 1) (t' - ws.length + 1) x x' h h' e
        omega
  · intro t x h
    rcases split t x h with ⟨-, h⟩ | ⟨-, h⟩
    · obtain ⟨y, hy, e, -⟩ := at2 t x h
      rw [← e]; exact hD.2 t y hy
    · exact hA _ (hD1.2 (t - ws.length + 1) x h)
theorem set_same {ws : va_W} {p : Nat} {x : Nat × va_E} (h : ws[p]? = some x) : ws.set p x = ws := by
  apply List.ext_getElem?
  intro j
  by_cases hj : j = p
  · rw [hj, List.getElem?_set_self (List.getElem?_eq_some_iff.mp h).1, h]
  · rw [List.getElem?_set_ne (Ne.symm hj)]
theorem cgl {ws L : va_W} {x : Nat × va_E} (h : ∃ p : Nat, ws[p]? = some x) : ∃ p : Nat, (ws ++ L)[p]? = some x := by
  obtain ⟨p, hp⟩ := h
  exact ⟨p, by rw [List.getElem?_append_left (List.getElem?_eq_some_iff.mp hp).1]; exact hp⟩
theorem cgr {ws L : va_W} {x : Nat × va_E} {j : Nat} (h : L[j]? = some x) : (ws ++ L)[ws.length + j]? = some x := by
  rw [List.getElem?_append_right (Nat.le_add_right _ _), Nat.add_sub_cancel_left]; exact h
theorem set_app {ws L : va_W} {x : Nat × va_E} {j : Nat} : (ws ++ L).set (ws.length + j) x = ws ++ L.set j x := by
  rw [List.set_append_right _ _ (Nat.le_add_right _ _), Nat.add_sub_cancel_left]
theorem z_min {x : Int32} {n : Nat} (h0 : ¬ x < 0) (hn : n < 2 ^ 31) : ¬ (if x < Int32.ofNat n then x else Int32.ofNat n) < 0 ∧ (if x < Int32.ofNat n then x else Int32.ofNat n).toNatClampNeg ≤ n ∧ (if x < Int32.ofNat n then x else Int32.ofNat n).toNatClampNeg ≤ x.toNatClampNeg ∧ ∀ j : Nat, j < x.toNatClampNeg → (j < (if x < Int32.ofNat n then x else Int32.ofNat n).toNatClampNeg ↔ j < n) := by
  have hc : (nI n).toNatClampNeg = n := nI_clamp hn
  have hN : ¬ nI n < 0 := Int32.not_lt.mpr (nI_pos' hn)
  have e : Int32.ofNat n = nI n := rfl
  rw [e]
  have hx : x.toNatClampNeg = x.toInt.toNat := rfl
  have hx2 : (nI n).toNatClampNeg = (nI n).toInt.toNat := rfl
  rw [Int32.lt_iff_toInt_lt] at h0 hN
  have z : (0 : Int32).toInt = 0 := by decide
  by_cases hlt : x < nI n
  · rw [if_pos hlt]
    rw [Int32.lt_iff_toInt_lt] at hlt ⊢
    refine ⟨h0, by omega, Nat.le_refl _, fun j hj => ⟨fun _ => by omega, fun _ => hj⟩⟩
  · rw [if_neg hlt]
    rw [Int32.lt_iff_toInt_lt] at hlt ⊢
    refine ⟨hN, by omega, by omega, fun j hj => ⟨fun h => by omega, fun h => by omega⟩⟩
theorem cpy_at {f : Nat → Int32} {m n j : Nat} (h : j < m ↔ j < n) : va_cpy f (fun _ => 0) 0 0 m j = if j < n then f j else 0 := by
  unfold va_cpy
  by_cases h9 : j < m
  · rw [if_pos ⟨Nat.zero_le _, by omega⟩, if_pos (h.mp h9), Nat.zero_add, Nat.sub_zero]
  · rw [if_neg (by omega), if_neg (fun q => h9 (h.mpr q))]
theorem z_fitI (cI n : Nat) (f : Nat → Int32) : ∀ (i : Nat) (v : Value), (vp_cell cI (n, .inl f)).slots[i]? = some v → fits .int v = true := by
  intro i v h
  have hs : (vp_cell cI (n, .inl f)).slots.size = n := arrV_size _ _ _
  have hi : i < n := by rw [← hs]; exact (Array.getElem?_eq_some_iff.mp h).1
  have h2 : (vp_cell cI (n, .inl f)).slots[i]? = some (.int (f i)) := arrV_read cI (fun j => .int (f j)) hi
  rw [h2] at h
  obtain rfl := Option.some.inj h
  rfl
def zw_zd_J7_copyOf_59c91_w0 : List Cond := [.methodLink RJ7 316 ⟨"[I", "clone", "()Ljava/lang/Object;"⟩, .sameMethod "[I" "java/lang/Object" "clone" "()Ljava/lang/Object;", .native ⟨"java/lang/Object", "clone", "()Ljava/lang/Object;"⟩, .instanceMethod ⟨"java/lang/Object", "clone", "()Ljava/lang/Object;"⟩, .selects "[I" ⟨"[I", "clone", "()Ljava/lang/Object;"⟩ ⟨"java/lang/Object", "clone", "()Ljava/lang/Object;"⟩, .classLink RJ7 317 "[I", .arrayClass .int, .methodLink RJ7 304 Lib.Math.min.name, .static Lib.Math.min.name, .initialized "java/lang/Math", .code Lib.Math.min.name Lib.Math.min.code 2 (some .int), .methodLink RJ7 150 arraycopyName, .native arraycopyName, .static arraycopyName, .initialized "java/lang/System"]
def zw_zd_J7_copyOf_59c91 : List Cond := .code yJ7_copyOf_59c91 cJ7_copyOf_59c91 3 (some (.array .int)) :: ((zw_zd_J7_copyOf_59c91_w0))
set_option maxHeartbeats 4000000 in
set_option maxRecDepth 100000 in
theorem zd_J7_copyOf_59c91 (l : Launch) (D : va_G) (cI cZ cP cF : Nat) (a0 n : Nat) (f : Nat → Int32) (x : Int32) (sz : Nat) (hn31 : n < 2 ^ 31) (hx0 : ¬ x < 0) (hx4 : x.toNatClampNeg * 4 ≤ 536870912) : Met l yJ7_copyOf_59c91 zw_zd_J7_copyOf_59c91 ({ frames := 1, cells := 1, slots := x.toNatClampNeg, locals := 60 }) (va_Pc [.ref a0, .int x] (fun U => U.heap.size = sz ∧ va_P D vwCl [(a0, .inl (cI, n, .inl f))] U.heap ∧ zF D cI cZ cP cF U ∧ va_D (fun _ => True) [(a0, .inl (cI, n, .inl f))])) (va_Qr (fun (g : Nat → Int32) => ∀ j : Nat, j < x.toNatClampNeg → g j = if j < n then f j else 0) (fun g a t => va_P D vwCl [(a0, .inl (cI, n, .inl f)), (a, .inl (cI, x.toNatClampNeg, .inl g))] t.heap ∧ va_D (va_A [(a0, .inl (cI, n, .inl f))] sz) [(a0, .inl (cI, n, .inl f)), (a, .inl (cI, x.toNatClampNeg, .inl g))]) (va_A [(a0, .inl (cI, n, .inl f))] sz)) 1 x.toNatClampNeg (va_A [(a0, .inl (cI, n, .inl f))] sz) := by
  refine Met.ofW (cc := cJ7_copyOf_59c91) (maxL := 3) (ret := (some (.array .int))) (by decide) rfl ?_
  intro p e s m args below meth c s₁ B hml hv
  obtain ⟨rfl, hsz, hP, hE, hD0⟩ := hv
  have hx := B.exec
  have hb := B.bytes
  have hr := B.returns
  have hts := atoms_spec (ws := zw_zd_J7_copyOf_59c91) B.pre
  have hown : s.vm.findClass RJ7 = some m.cls := findClass_of_methodNamed B.named
  have hlocks := B.notSynchronized
  have hK := hE.k
  subst hsz
  have hD := hD0.self (sz := s.heap.size)
  generalize hAe : va_A [(a0, .inl (cI, n, .inl f))] s.heap.size = A at hD ⊢
  have hA : ∀ q : Nat, s.heap.size ≤ q → A q := fun q h => by rw [← hAe]; exact Or.inr h
  have hS : va_S A s.heap s.heap [] := va_S.rf
  have hl := lv_entry ([.ref a0, .int x]) (n := 3) (Nat.le_of_ble_eq_true rfl)
  rw [lg_entry_eq]
  generalize (lg_sl ([.ref a0, .int x]) ++ List.replicate (3 - (lg_sl ([.ref a0, .int x])).length) Slot.unset).toArray = ls at hl ⊢
  have hl : lv_has ls 3 [(0, .ref a0), (1, .int x)] := hl
  refine lv_iload_n hx hb dJ7_copyOf_59c91_0 rfl (lv_at hl 1 rfl) ?_
  refine lv_aload_n hx hb dJ7_copyOf_59c91_1 rfl (lv_at hl 0 rfl) ?_
  refine va_alen hx hb hK hP 0 0 rfl rfl (v := Int32.ofNat n) rfl dJ7_copyOf_59c91_2 ?_
  refine lv_icmp_ne (tgt := 14) hx hb dJ7_copyOf_59c91_3 (by decide) (fun c_1 => ?_) (fun c_1 => ?_)
  · refine lv_iload_n hx hb dJ7_copyOf_59c91_14 rfl (lv_at hl 1 rfl) ?_
    refine z_newI hx hb (hts (.arrayClass .int) (List.mem_of_getElem? (i := 7) rfl)) hK 0 rfl hP hD hS hA (n := x) (N' := x.toNatClampNeg) hx0 rfl hx4 (Nat.le_refl _) (by show 0 + x.toNatClampNeg ≤ x.toNatClampNeg; omega) dJ7_copyOf_59c91_15 (fun q1 H hP hD hS => ?_)
    refine lv_astore_n (lv' := [(2, .ref q1), (0, .ref a0), (1, .int x)]) hx hb dJ7_copyOf_59c91_17 rfl hl (by decide) rfl (fun ls hl => ?_)
    refine lv_aload_n hx hb dJ7_copyOf_59c91_18 rfl (lv_at hl 1 rfl) ?_
    refine lv_iconst (v := 0) hx hb dJ7_copyOf_59c91_19 (by decide) ?_
    refine lv_aload_n hx hb dJ7_copyOf_59c91_20 rfl (lv_at hl 0 rfl) ?_
    refine lv_iconst (v := 0) hx hb dJ7_copyOf_59c91_21 (by decide) ?_
    refine lv_aload_n hx hb dJ7_copyOf_59c91_22 rfl (lv_at hl 1 rfl) ?_
    refine va_alen hx hb hK hP 0 0 rfl rfl (v := Int32.ofNat n) rfl dJ7_copyOf_59c91_23 ?_
    refine lv_iload_n hx hb dJ7_copyOf_59c91_24 rfl (lv_at hl 2 rfl) ?_
    refine va_mmin hx hb (hml.trans hl.1.symm) hown (hts (.methodLink RJ7 304 Lib.Math.min.name) (List.mem_of_getElem? (i := 8) rfl)) (hts (.static Lib.Math.min.name) (List.mem_of_getElem? (i := 9) rfl)) (hts (.initialized "java/lang/Math") (List.mem_of_getElem? (i := 10) rfl)) (hts (.code Lib.Math.min.name Lib.Math.min.code 2 (some .int)) (List.mem_of_getElem? (i := 11) rfl)) (Nat.le_of_ble_eq_true rfl) (by exact Nat.le_of_ble_eq_true rfl) (Nat.le_refl _) (by show 0 + x.toNatClampNeg ≤ x.toNatClampNeg; omega) dJ7_copyOf_59c91_25 ?_
    obtain ⟨m0, m1, m2, m3⟩ := z_min hx0 hn31
    obtain ⟨mn, hmn⟩ : ∃ z, z = (if x < Int32.ofNat n then x else Int32.ofNat n) := ⟨_, rfl⟩
    rw [← hmn] at m0 m1 m2 m3 ⊢
    have z0 : (0 : Int32).toNatClampNeg = 0 := by decide
    refine va_copyi hx hb (hml.trans hl.1.symm) hown (hts (.methodLink RJ7 150 arraycopyName) (List.mem_of_getElem? (i := 12) rfl)) (hts (.native arraycopyName) (List.mem_of_getElem? (i := 13) rfl)) (hts (.static arraycopyName) (List.mem_of_getElem? (i := 14) rfl)) (hts (.initialized "java/lang/System") (List.mem_of_getElem? (i := 15) rfl)) hK hP hD hS 0 1 0 0 rfl rfl rfl rfl rfl (by decide) (by decide) m0 (by rw [z0, Nat.zero_add]; exact m1) (by rw [z0, Nat.zero_add]; exact m2) (fun _ _ => rfl) (Nat.le_of_ble_eq_true rfl) (by exact Nat.le_of_ble_eq_true rfl) dJ7_copyOf_59c91_28 (fun H locs hP hD hS => ?_)
    refine lv_aload_n hx hb dJ7_copyOf_59c91_31 rfl (lv_at hl 0 rfl) ?_
    refine W.widen (k := 1) (n := x.toNatClampNeg) (Nat.le_refl _) (by omega) ?_
    exact W.aret hx hb hr (Or.inr ⟨_, rfl⟩) (Or.inr ⟨_, rfl⟩) (fun t ht hW => ⟨⟨_, q1, rfl, fun j hj => by rw [z0]; exact cpy_at (m3 j hj), by rw [ht]; exact hP, hD⟩, hS.F ht⟩) hS.2.2 dJ7_copyOf_59c91_32
  · have hxn : x.toNatClampNeg = n := by rw [c_1]; exact nI_clamp hn31
    refine lv_aload_n hx hb dJ7_copyOf_59c91_6 rfl (lv_at hl 0 rfl) ?_
    have hnm := va_nm_int ((hK.2 0 _ rfl).2)
    refine va_clone hx hb (hml.trans hl.1.symm) hown (hts (.methodLink RJ7 316 ⟨"[I", "clone", "()Ljava/lang/Object;"⟩) (List.mem_of_getElem? (i := 1) rfl)) (hts (.sameMethod "[I" "java/lang/Object" "clone" "()Ljava/lang/Object;") (List.mem_of_getElem? (i := 2) rfl)) (hts (.native ⟨"java/lang/Object", "clone", "()Ljava/lang/Object;"⟩) (List.mem_of_getElem? (i := 3) rfl)) (hts (.instanceMethod ⟨"java/lang/Object", "clone", "()Ljava/lang/Object;"⟩) (List.mem_of_getElem? (i := 4) rfl)) (hts (.selects "[I" ⟨"[I", "clone", "()Ljava/lang/Object;"⟩ ⟨"java/lang/Object", "clone", "()Ljava/lang/Object;"⟩) (List.mem_of_getElem? (i := 5) rfl)) hE.cas hK hP hD hS hA 0 0 rfl rfl hnm (z_fitI cI n f) (Nat.le_of_ble_eq_true rfl) (by exact Nat.le_of_ble_eq_true rfl) (Nat.le_refl _) (by show 0 + n ≤ x.toNatClampNeg; omega) dJ7_copyOf_59c91_7 (fun q1 H hK1 hP hD hS => ?_)
    refine va_castA hx hb hown (hts (.classLink RJ7 317 "[I") (List.mem_of_getElem? (i := 6) rfl)) hP 1 rfl hnm dJ7_copyOf_59c91_10 ?_
    refine W.widen (k := 1) (n := x.toNatClampNeg) (Nat.le_refl _) (by show 0 + n ≤ x.toNatClampNeg; omega) ?_
    have hP : va_P D vwCl [(a0, .inl (cI, n, .inl f)), (q1, .inl (cI, x.toNatClampNeg, .inl f))] H := by rw [hxn]; exact hP
    have hD : va_D A [(a0, .inl (cI, n, .inl f)), (q1, .inl (cI, x.toNatClampNeg, .inl f))] := by rw [hxn]; exact hD
    exact W.aret hx hb hr (Or.inr ⟨_, rfl⟩) (Or.inr ⟨_, rfl⟩) (fun t ht hW => ⟨⟨f, q1, rfl, fun j hj => by rw [if_pos (by omega)], by rw [ht]; exact hP, hD⟩, hS.F ht⟩) hS.2.2 dJ7_copyOf_59c91_13
theorem one_P {D : va_G} {cl : List vw_C} {ws : va_W} {p : Nat} {x : Nat × va_E} {H : Heap} (hP : va_P D cl ws H) (hp : ws[p]? = some x) : va_P D cl [x] H := fun k y hk => by
  cases k with
  | zero => obtain rfl := Option.some.inj hk; exact hP p _ hp
  | succ k => simp at hk
theorem one_D {A : Nat → Prop} {ws : va_W} {p : Nat} {x : Nat × va_E} (hD : va_D A ws) (hp : ws[p]? = some x) : va_D A [x] := by
  refine ⟨fun i j y z hi hj _ => ?_, fun k y hk => ?_⟩
  · cases i with
    | zero => cases j with
      | zero => rfl
      | succ j => simp at hj
    | succ i => simp at hi
  · cases k with
    | zero => obtain rfl := Option.some.inj hk; exact hD.2 p _ hp
    | succ k => simp at hk
theorem one_F {A : Nat → Prop} {ws : va_W} {p a : Nat} {e : va_E} {H0 H : Heap} {locs : List Loc} (hD : va_D A ws) (hS : va_S A H0 H locs) (hA : ∀ q, H0.size ≤ q → A q) (hp : ws[p]? = some (a, e)) : ∀ q : Nat, va_A [(a, e)] H.size q → A q := by
  rintro q (⟨k, e', hk⟩ | h)
  · cases k with
    | zero =>
      have h3 : (a, e) = (q, e') := Option.some.inj hk
      have h4 : a = q := congrArg Prod.fst h3
      rw [← h4]; exact hD.2 p _ hp
    | succ k => simp at hk
  · exact hA q (Nat.le_trans hS.1 h)
theorem cA_zero {q q1 : Nat → Nat → Nat} {S : CST} {a b : Nat} (h : cA q S q1 S a b) : a = 0 ∧ b = 0 := by
  obtain ⟨h1, h2, h3, h4, h5, h6, h7⟩ := h
  omega
theorem cno_up {q : Nat → Nat → Nat} {n : Nat} (hn : n < 2147483648) (g : Nat → Int32) (t : Nat) : (fun j => cno q 24 (upd g t (nI n) j)) = va_up (fun j => cno q 24 (g j)) t (some (q 24 n)) := by
  have hp : ¬ nI n < 0 := Int32.not_lt.mpr (nI_pos' (by omega))
  funext j
  unfold upd va_up
  by_cases hj : j = t
  · rw [if_pos hj, if_pos hj]
    unfold cno
    rw [if_neg hp, nI_clamp (by omega)]
  · rw [if_neg hj, if_neg hj]
def zmx (x : Int32) : Int32 := if x < 0 then 0 else x
def wp_X3_finish (S : CST) (a1 : Int32) (a2 : Int32) (a3 : Int32) (Post : CST → Nat → Prop) : Prop :=
  Wid S ∧ cnC S < 104 ∧ ¬ 5 * zmx (cv S 72 0 0) < 0 ∧ (5 * zmx (cv S 72 0 0)).toNatClampNeg ≤ 7555 ∧ ¬ zmx a3 < 0 ∧ (zmx a3).toNatClampNeg ≤ 60 ∧ ∀ f1 f2 : Nat → Int32, (∀ j : Nat, j < (5 * zmx (cv S 72 0 0)).toNatClampNeg → f1 j = if j < 7555 then cv S 80 0 j else 0) → (∀ j : Nat, j < (zmx a3).toNatClampNeg → f2 j = if j < 60 then cv S 90 0 j else 0) → Post (addC S a1 a2 (5 * zmx (cv S 72 0 0)) (zmx a3) f1 f2) (cnC S)
def zw_zd_X3_finish_w0 : List Cond := [.fieldLink RX3 9 "TemplateForge$Draft" "cells" "[I", .fieldLink RX3 18 "TemplateForge$Draft" "parts" "I", .methodLink RX3 48 Lib.Math.max.name, .static Lib.Math.max.name, .initialized "java/lang/Math", .code Lib.Math.max.name Lib.Math.max.code 2 (some .int), .code yJ7_copyOf_59c91 cJ7_copyOf_59c91 3 (some (.array .int)), .methodLink RJ7 316 ⟨"[I", "clone", "()Ljava/lang/Object;"⟩, .sameMethod "[I" "java/lang/Object" "clone" "()Ljava/lang/Object;", .native ⟨"java/lang/Object", "clone", "()Ljava/lang/Object;"⟩, .instanceMethod ⟨"java/lang/Object", "clone", "()Ljava/lang/Object;"⟩, .selects "[I" ⟨"[I", "clone", "()Ljava/lang/Object;"⟩ ⟨"java/lang/Object", "clone", "()Ljava/lang/Object;"⟩, .classLink RJ7 317 "[I", .arrayClass .int, .methodLink RJ7 304 Lib.Math.min.name, .static Lib.Math.min.name]
def zw_zd_X3_finish_w1 : List Cond := [.code Lib.Math.min.name Lib.Math.min.code 2 (some .int), .methodLink RJ7 150 arraycopyName, .native arraycopyName, .static arraycopyName, .initialized "java/lang/System", .methodLink RX3 54 yJ7_copyOf_59c91, .static yJ7_copyOf_59c91, .initialized RJ7, .classLink RX3 58 RX1, .instantiable RX1 4, .initialized RX1, .fieldLink RX3 15 "TemplateForge$Draft" "starts" "[I", .code yX1_init cX1_init 5 none, .methodLink RX1 3 objectInit, .instanceMethod objectInit, .code objectInit ⟨#[0xb1]⟩ 1 none]
def zw_zd_X3_finish_w2 : List Cond := [.fieldLink RX1 9 "TemplateForge$Code" "making" "I", .fieldLink RX1 15 "TemplateForge$Code" "heads" "I", .fieldLink RX1 18 "TemplateForge$Code" "cells" "[I", .fieldLink RX1 22 "TemplateForge$Code" "starts" "[I", .methodLink RX3 60 yX1_init, .instanceMethod yX1_init]
def zw_zd_X3_finish : List Cond := .code yX3_finish cX3_finish 5 (some (.object "TemplateForge$Code")) :: ((zw_zd_X3_finish_w0 ++ (zw_zd_X3_finish_w1 ++ (zw_zd_X3_finish_w2))) ++ wsX30 ++ wsX10)
set_option maxRecDepth 100000 in
theorem zg_finish_copy : GoodIn zw_zd_X3_finish (va_wsS RX3 54 yJ7_copyOf_59c91 zw_zd_J7_copyOf_59c91) := goodIn_r _ [22, 23, 24, 7, 8, 9, 10, 11, 12, 13, 14, 15, 16, 5, 17, 18, 19, 20, 21] rfl (by decide +kernel)
set_option maxRecDepth 100000 in
theorem zg_finish_init : GoodIn zw_zd_X3_finish zw_zc_X1_init := goodIn_r _ [29, 30, 31, 32, 33, 34, 35, 36, 42, 43, 44, 45] rfl (by decide +kernel)
set_option maxHeartbeats 16000000 in
set_option maxRecDepth 100000 in
theorem zd_X3_finish (l : Launch) (D : va_G) (cI cZ cP cF : Nat) (q : Nat → Nat → Nat) (S : CST) (a1 : Int32) (a2 : Int32) (a3 : Int32) (sz : Nat) (Post : CST → Nat → Prop) (h : wp_X3_finish S a1 a2 a3 Post) (hcap : cCap S) : MetV l yX3_finish zw_zd_X3_finish ({ frames := 2, cells := rmc S, slots := rms S, locals := 82 }) (va_Pc [.ref (q 7 0), .int a1, .int a2, .int a3] (fun U => U.heap.size = sz ∧ va_P D vwCl (cW cI cZ cP cF q S) U.heap ∧ zF D cI cZ cP cF U ∧ va_D (fun _ => True) (cW cI cZ cP cF q S))) (xQc (fun S' r => Post S' r) (fun (q' : Nat → Nat → Nat) (S' : CST) k n t => va_P D vwCl (cW cI cZ cP cF q' S') t.heap ∧ va_D (va_A (cW cI cZ cP cF q S) sz) (cW cI cZ cP cF q' S') ∧ cA q S q' S' k n) (va_A (cW cI cZ cP cF q S) sz)) (va_A (cW cI cZ cP cF q S) sz) := by
  unfold wp_X3_finish at h
  refine MetV.ofW (cc := cX3_finish) (maxL := 5) (ret := (some (.object "TemplateForge$Code"))) (by decide) rfl ?_
  intro p e s m args below meth c s₁ B hml hv
  obtain ⟨rfl, hsz, hP, hE, hD0⟩ := hv
  have hx := B.exec
  have hb := B.bytes
  have hr := B.returns
  have hts := atoms_spec (ws := zw_zd_X3_finish) B.pre
  have hown : s.vm.findClass RX3 = some m.cls := findClass_of_methodNamed B.named
  have hlocks := B.notSynchronized
  have hK := hE.k
  subst hsz
  have hD := hD0.self (sz := s.heap.size)
  generalize hAe : va_A (cW cI cZ cP cF q S) s.heap.size = A at hD ⊢
  have hA : ∀ q : Nat, s.heap.size ≤ q → A q := fun q h => by rw [← hAe]; exact Or.inr h
  have hl := lv_entry ([.ref (q 7 0), .int a1, .int a2, .int a3]) (n := 5) (Nat.le_of_ble_eq_true rfl)
  rw [lg_entry_eq]
  generalize (lg_sl ([.ref (q 7 0), .int a1, .int a2, .int a3]) ++ List.replicate (5 - (lg_sl ([.ref (q 7 0), .int a1, .int a2, .int a3])).length) Slot.unset).toArray = ls at hl ⊢
  have hl : lv_has ls 5 [(0, .ref (q 7 0)), (1, .int a1), (2, .int a2), (3, .int a3)] := hl
  have key : ∀ (H : Heap) (locs : List Loc) (cells slots : Nat), va_P D vwCl (cW cI cZ cP cF q S) H → va_S A s.heap H locs → cA q S q S cells slots → W p l e (headSpec zw_zd_X3_finish ({ frames := 2, cells := rmc S, slots := rms S, locals := 82 })).room s m ([.ref (q 7 0), .int a1, .int a2, .int a3] : List Value).toArray below meth c H locs cells slots (MQV below (xQc (fun S' r => Post S' r) (fun (q' : Nat → Nat → Nat) (S' : CST) k n t => va_P D vwCl (cW cI cZ cP cF q' S') t.heap ∧ va_D A (cW cI cZ cP cF q' S') ∧ cA q S q' S' k n) A) ([.ref (q 7 0), .int a1, .int a2, .int a3] : List Value).toArray s A) (F0 m 0 ls []) := by
    intro H locs cells slots hP hS hN
    refine lv_aload_n hx hb dX3_finish_0 rfl (lv_at hl 0 rfl) ?_
    obtain ⟨p_1, hp_1⟩ := cget_7 cI cZ cP cF q S
    have hi_1 : cin S 7 0 := Or.inl ⟨by decide, rfl⟩
    refine va_get (D := D) (ci := 3) (v := .ref (q 8 0)) (C := RX3) (T := TX3) (N := 3) hx hb hts (fun _ h => List.mem_cons_of_mem _ (List.mem_append_left _ (List.mem_append_right _ h))) hown hK hP p_1 hp_1 rfl 0 (by decide) (hts (.fieldLink RX3 9 "TemplateForge$Draft" "cells" "[I") (List.mem_of_getElem? (i := 1) rfl)) (fun _ h9 => h9) rfl dX3_finish_1 ?_
    refine lv_iconst (v := 5) hx hb dX3_finish_4 (by decide) ?_
    refine lv_aload_n hx hb dX3_finish_5 rfl (lv_at hl 0 rfl) ?_
    obtain ⟨p_2, hp_2⟩ := cget_7 cI cZ cP cF q S
    have hi_2 : cin S 7 0 := Or.inl ⟨by decide, rfl⟩
    refine va_get (D := D) (ci := 3) (v := .int (cv S 72 0 0)) (C := RX3) (T := TX3) (N := 3) hx hb hts (fun _ h => List.mem_cons_of_mem _ (List.mem_append_left _ (List.mem_append_right _ h))) hown hK hP p_2 hp_2 rfl 2 (by decide) (hts (.fieldLink RX3 18 "TemplateForge$Draft" "parts" "I") (List.mem_of_getElem? (i := 2) rfl)) (fun _ h9 => h9) rfl dX3_finish_6 ?_
    refine lv_iconst (v := 0) hx hb dX3_finish_9 (by decide) ?_
    refine va_mmax hx hb (hml.trans hl.1.symm) hown (hts (.methodLink RX3 48 Lib.Math.max.name) (List.mem_of_getElem? (i := 3) rfl)) (hts (.static Lib.Math.max.name) (List.mem_of_getElem? (i := 4) rfl)) (hts (.initialized "java/lang/Math") (List.mem_of_getElem? (i := 5) rfl)) (hts (.code Lib.Math.max.name Lib.Math.max.code 2 (some .int)) (List.mem_of_getElem? (i := 6) rfl)) (Nat.le_of_ble_eq_true rfl) (by exact Nat.le_of_ble_eq_true rfl) (cA_le hN).1 (cA_le hN).2 dX3_finish_10 ?_
    refine lv_imul hx hb dX3_finish_13 ?_
    obtain ⟨hw, hc4, h5a, h5b, h6a, h6b, h⟩ := h
    obtain ⟨hc0, hs0⟩ := cA_zero hN
    subst hc0 hs0
    have hr1 : 3 ≤ rmc S := by unfold rmc; omega
    have hr2 : 7619 ≤ rms S := by unfold rms; omega
    obtain ⟨p_90, hp_90⟩ := cget_8 cI cZ cP cF q S
    have hPc := one_P hP hp_90
    have hDc := one_D hD hp_90
    have hFc := one_F hD hS hA hp_90
    refine va_callr (va_runS (As := [.ref (q 8 0), .int (5 * zmx (cv S 72 0 0))]) (rest := []) ⟨hx, hb, hml, hown, hts⟩ (zd_J7_copyOf_59c91 l D cI cZ cP cF (q 8 0) 7555 (cv S 80 0) (5 * zmx (cv S 72 0 0)) H.size (by decide) h5a (by omega)) (va_cwS 2 hts zg_finish_copy rfl rfl rfl (by decide +kernel) ⟨Nat.le_of_ble_eq_true rfl, Nat.le_of_ble_eq_true rfl⟩) ⟨zCW, fun U hU hW => ⟨rfl, by rw [hU], by rw [hU]; exact hPc, hE.warm hW, hDc.weaken (fun _ _ _ _ => trivial)⟩⟩ rfl rfl hl.1 rfl (lv_room (Nat.le_of_ble_eq_true rfl)) dX3_finish_14 ⟨by show 0 + 1 ≤ rmc S; omega, by show 0 + (5 * zmx (cv S 72 0 0)).toNatClampNeg ≤ rms S; omega⟩) hS (fun q _ h => hFc q h) hFc (fun g1 b1 t H locs ht hvm hg1 hB hz1 hk1 hS => ?_)
    obtain ⟨hP1, hD1⟩ := hB
    rw [ht] at hP1
    obtain ⟨hP, hD⟩ := cx_join hP hD hp_90 hk1 hP1 hD1 hFc
    rw [set_same hp_90] at hP hD
    refine lv_astore (lv' := [(4, .ref b1), (0, .ref (q 7 0)), (1, .int a1), (2, .int a2), (3, .int a3)]) hx hb dX3_finish_17 hl (by decide) rfl (fun ls hl => ?_)
    refine va_new (ci := 1) (fs := [.int 0, .int 0, .null, .null]) (C := RX1) (T := TX1) (N := 4) hx hb hts (fun _ h => List.mem_cons_of_mem _ (List.mem_append_right _ h)) tyX1 tyX1_ok hown (hts (.classLink RX3 58 RX1) (List.mem_of_getElem? (i := 25) rfl)) (hts (.instantiable RX1 4) (List.mem_of_getElem? (i := 26) rfl)) (hts (.initialized RX1) (List.mem_of_getElem? (i := 27) rfl)) hK hP hD hS hA rfl (fun j hj => by rcases (show j = 0 ∨ j = 1 ∨ j = 2 ∨ j = 3 by omega) with rfl | rfl | rfl | rfl <;> rfl) (by show 0 + 1 + 1 ≤ rmc S; omega) (by show 0 + (5 * zmx (cv S 72 0 0)).toNatClampNeg + 4 ≤ rms S; omega) dX3_finish_19 (fun b0 H hP hD hS => ?_)
    rw [List.append_assoc] at hP hD
    have hP : va_P D vwCl (cW cI cZ cP cF q S ++ [(b1, .inl (cI, (5 * zmx (cv S 72 0 0)).toNatClampNeg, .inl g1)), (b0, .inr (1, [.int 0, .int 0, .null, .null]))]) H := hP
    have hD : va_D A (cW cI cZ cP cF q S ++ [(b1, .inl (cI, (5 * zmx (cv S 72 0 0)).toNatClampNeg, .inl g1)), (b0, .inr (1, [.int 0, .int 0, .null, .null]))]) := hD
    refine lv_dup hx hb dX3_finish_22 rfl ?_
    refine lv_iload_n hx hb dX3_finish_23 rfl (lv_at hl 2 rfl) ?_
    refine lv_iload_n hx hb dX3_finish_24 rfl (lv_at hl 3 rfl) ?_
    refine lv_aload hx hb dX3_finish_25 (lv_at hl 0 rfl) ?_
    refine lv_aload_n hx hb dX3_finish_27 rfl (lv_at hl 1 rfl) ?_
    obtain ⟨p_91, hp_91⟩ := cgl (L := [(b1, .inl (cI, (5 * zmx (cv S 72 0 0)).toNatClampNeg, .inl g1)), (b0, .inr (1, [.int 0, .int 0, .null, .null]))]) (cget_7 cI cZ cP cF q S)
    refine va_get (D := D) (ci := 3) (v := .ref (q 9 0)) (C := RX3) (T := TX3) (N := 3) hx hb hts (fun _ h => List.mem_cons_of_mem _ (List.mem_append_left _ (List.mem_append_right _ h))) hown hK hP p_91 hp_91 rfl 1 (by decide) (hts (.fieldLink RX3 15 "TemplateForge$Draft" "starts" "[I") (List.mem_of_getElem? (i := 28) rfl)) (fun _ h9 => h9) rfl dX3_finish_28 ?_
    refine lv_iload_n hx hb dX3_finish_31 rfl (lv_at hl 4 rfl) ?_
    refine lv_iconst (v := 0) hx hb dX3_finish_32 (by decide) ?_
    refine va_mmax hx hb (hml.trans hl.1.symm) hown (hts (.methodLink RX3 48 Lib.Math.max.name) (List.mem_of_getElem? (i := 3) rfl)) (hts (.static Lib.Math.max.name) (List.mem_of_getElem? (i := 4) rfl)) (hts (.initialized "java/lang/Math") (List.mem_of_getElem? (i := 5) rfl)) (hts (.code Lib.Math.max.name Lib.Math.max.code 2 (some .int)) (List.mem_of_getElem? (i := 6) rfl)) (Nat.le_of_ble_eq_true rfl) (by exact Nat.le_of_ble_eq_true rfl) (by show 0 + 1 + 1 ≤ rmc S; omega) (by show 0 + (5 * zmx (cv S 72 0 0)).toNatClampNeg + 4 ≤ rms S; omega) dX3_finish_33 ?_
    obtain ⟨p_92, hp_92⟩ := cgl (L := [(b1, .inl (cI, (5 * zmx (cv S 72 0 0)).toNatClampNeg, .inl g1)), (b0, .inr (1, [.int 0, .int 0, .null, .null]))]) (cget_9 cI cZ cP cF q S)
    have hPc := one_P hP hp_92
    have hDc := one_D hD hp_92
    have hFc := one_F hD hS hA hp_92
    refine va_callr (va_runS (As := [.ref (q 9 0), .int (zmx a3)]) (rest := [.ref b1, .int a2, .int a1, .ref b0, .ref b0]) ⟨hx, hb, hml, hown, hts⟩ (zd_J7_copyOf_59c91 l D cI cZ cP cF (q 9 0) 60 (cv S 90 0) (zmx a3) H.size (by decide) h6a (by omega)) (va_cwS 2 hts zg_finish_copy rfl rfl rfl (by decide +kernel) ⟨Nat.le_of_ble_eq_true rfl, Nat.le_of_ble_eq_true rfl⟩) ⟨zCW, fun U hU hW => ⟨rfl, by rw [hU], by rw [hU]; exact hPc, hE.warm hW, hDc.weaken (fun _ _ _ _ => trivial)⟩⟩ rfl rfl hl.1 rfl (lv_room (Nat.le_of_ble_eq_true rfl)) dX3_finish_36 ⟨by show 0 + 1 + 1 + 1 ≤ rmc S; omega, by show 0 + (5 * zmx (cv S 72 0 0)).toNatClampNeg + 4 + (zmx a3).toNatClampNeg ≤ rms S; omega⟩) hS (fun q _ h => hFc q h) hFc (fun g2 b2 t H locs ht hvm hg2 hB hz1 hk1 hS => ?_)
    obtain ⟨hP1, hD1⟩ := hB
    rw [ht] at hP1
    obtain ⟨hP, hD⟩ := cx_join hP hD hp_92 hk1 hP1 hD1 hFc
    rw [set_same hp_92] at hP hD
    rw [List.append_assoc] at hP hD
    have hP : va_P D vwCl (cW cI cZ cP cF q S ++ [(b1, .inl (cI, (5 * zmx (cv S 72 0 0)).toNatClampNeg, .inl g1)), (b0, .inr (1, [.int 0, .int 0, .null, .null])), (b2, .inl (cI, (zmx a3).toNatClampNeg, .inl g2))]) H := hP
    have hD : va_D A (cW cI cZ cP cF q S ++ [(b1, .inl (cI, (5 * zmx (cv S 72 0 0)).toNatClampNeg, .inl g1)), (b0, .inr (1, [.int 0, .int 0, .null, .null])), (b2, .inl (cI, (zmx a3).toNatClampNeg, .inl g2))]) := hD
    have hp_93 : (cW cI cZ cP cF q S ++ [(b1, .inl (cI, (5 * zmx (cv S 72 0 0)).toNatClampNeg, .inl g1)), (b0, .inr (1, [.int 0, .int 0, .null, .null])), (b2, .inl (cI, (zmx a3).toNatClampNeg, .inl g2))])[(cW cI cZ cP cF q S).length + 1]? = some (b0, .inr (1, [.int 0, .int 0, .null, .null])) := cgr rfl
    have hPc := one_P hP hp_93
    have hDc := one_D hD hp_93
    have hFc := one_F hD hS hA hp_93
    refine va_callv (va_runI (As := [.int a1, .int a2, .ref b1, .ref b2]) (rest := [.ref b0]) ⟨hx, hb, hml, hown, hts⟩ (zc_X1_init l D cI cZ cP cF b0 b1 b2 a1 a2 H.size) (cwI 4 hts zg_finish_init rfl rfl rfl (hts (.initialized RX1) (List.mem_of_getElem? (i := 27) rfl)) (hts (.methodLink RX3 60 yX1_init) (List.mem_of_getElem? (i := 37) rfl)) (hts (.instanceMethod yX1_init) (List.mem_of_getElem? (i := 38) rfl)) rfl (by decide +kernel) ⟨Nat.le_of_ble_eq_true rfl, Nat.le_of_ble_eq_true rfl⟩) ⟨zBW, fun U hU hW => ⟨rfl, by rw [hU], by rw [hU]; exact hPc, hE.1.warm hW, hDc.weaken (fun _ _ _ _ => trivial)⟩⟩ rfl rfl hl.1 rfl (lv_room (Nat.le_of_ble_eq_true rfl)) dX3_finish_39 ⟨by show 0 + 1 + 1 + 1 + 0 ≤ rmc S; omega, by show 0 + (5 * zmx (cv S 72 0 0)).toNatClampNeg + 4 + (zmx a3).toNatClampNeg + 0 ≤ rms S; omega⟩) hS (fun q _ h => hFc q h) hFc (fun u t H locs ht hvm _ hB hz1 hk1 hS => ?_)
    obtain ⟨hP1, hD1⟩ := hB
    rw [ht] at hP1
    obtain ⟨hP, hD⟩ := cx_join (L' := []) hP hD hp_93 hk1 hP1 hD1 hFc
    rw [List.append_nil, set_app] at hP hD
    have hP : va_P D vwCl (cW cI cZ cP cF q S ++ [(b1, .inl (cI, (5 * zmx (cv S 72 0 0)).toNatClampNeg, .inl g1)), (b0, .inr (1, [.int a1, .int a2, .ref b1, .ref b2])), (b2, .inl (cI, (zmx a3).toNatClampNeg, .inl g2))]) H := hP
    have hD : va_D A (cW cI cZ cP cF q S ++ [(b1, .inl (cI, (5 * zmx (cv S 72 0 0)).toNatClampNeg, .inl g1)), (b0, .inr (1, [.int a1, .int a2, .ref b1, .ref b2])), (b2, .inl (cI, (zmx a3).toNatClampNeg, .inl g2))]) := hD
    obtain ⟨q1, hq1, hqa, hP, hD⟩ := cW_addC hw hP hD
    have h := h g1 g2 hg1 hg2
    refine zV_c hx hb hr (fun t ht hW => ⟨⟨cnC S, q1, addC S a1 a2 (5 * zmx (cv S 72 0 0)) (zmx a3) g1 g2, by rw [hqa], h, by rw [ht]; exact hP, hD, hq1, Nat.le_refl _, Nat.le_succ _, hcap.1, hc4, ?_, ?_⟩, hS.F ht⟩) hS.2.2 dX3_finish_42 hlocks
    · show 0 + 1 + 1 + 1 + 0 ≤ 8 * (cnP S - cnP S) + 3 * (cnC S + 1 - cnC S)
      omega
    · show 0 + (5 * zmx (cv S 72 0 0)).toNatClampNeg + 4 + (zmx a3).toNatClampNeg + 0 ≤ 232 * (cnP S - cnP S) + 7619 * (cnC S + 1 - cnC S)
      omega
  exact key _ _ 0 0 hP va_S.rf (cA_rf hcap)

def wp_X0_tell (S : CST) (a1 : Int32) (a2 : Int32) (Post : CST → Int32 → Prop) : Prop :=
  ((((cv S 11 0 0) : Int32) < 8) → (Wid S ∧ ¬ (cv S 11 0 0) < 0 ∧ (cv S 11 0 0).toNatClampNeg = cnP S ∧ cnP S < 8 ∧ ∀ S1 : CST, S1 = addP S (cv S 11 0 0) a1 a2 → ∀ S2 : CST, S2 = cs S1 20 0 (upd (cv S1 20 0) ((cv S 11 0 0) : Int32).toNatClampNeg (nI (cnP S))) → (∀ S7 : CST, S7 = cs S2 11 0 (fun _ => (cv S2 11 0 0) + 1) → (Post S7 ((cv S7 11 0 0) - 1))))) ∧ ((¬ (((cv S 11 0 0) : Int32) < 8)) → (Post S (-4)))
def zw_zd_X0_tell_w0 : List Cond := [.fieldLink RX0 17 "TemplateForge$Book" "told" "I", .fieldLink RX0 11 "TemplateForge$Book" "programs" "[LTemplateForge$Program;", .classLink RX0 9 RX8, .instantiable RX8 10, .initialized RX8, .code yX8_init cX8_init 4 none, .methodLink RX8 3 objectInit, .instanceMethod objectInit, .code objectInit ⟨#[0xb1]⟩ 1 none, .classLink RX8 9 RX5, .instantiable RX5 9, .initialized RX5, .code yX5_init cX5_init 1 none, .methodLink RX5 3 objectInit, .arrayClass .int, .fieldLink RX5 9 "TemplateForge$Heat" "first" "[I"]
def zw_zd_X0_tell_w1 : List Cond := [.arrayClass .boolean, .fieldLink RX5 15 "TemplateForge$Heat" "same" "[Z", .fieldLink RX5 19 "TemplateForge$Heat" "varying" "[Z", .instanceMethod yX5_init, .fieldLink RX8 12 "TemplateForge$Program" "heat" "LTemplateForge$Heat;", .fieldLink RX8 18 "TemplateForge$Program" "ops" "[I", .fieldLink RX8 22 "TemplateForge$Program" "xs" "[I", .fieldLink RX8 25 "TemplateForge$Program" "depths" "[I", .fieldLink RX8 28 "TemplateForge$Program" "deepest" "I", .fieldLink RX8 32 "TemplateForge$Program" "number" "I", .fieldLink RX8 35 "TemplateForge$Program" "args" "I", .fieldLink RX8 38 "TemplateForge$Program" "locals" "I", .methodLink RX0 21 yX8_init, .instanceMethod yX8_init]
def zw_zd_X0_tell : List Cond := .code yX0_tell cX0_tell 3 (some .int) :: ((zw_zd_X0_tell_w0 ++ (zw_zd_X0_tell_w1)) ++ wsX00 ++ wsX80 ++ wsX50)
set_option maxRecDepth 100000 in
theorem zg_tell_init : GoodIn zw_zd_X0_tell zw_zc_X8_init := goodIn_r _ [6, 7, 8, 9, 10, 11, 12, 13, 14, 15, 16, 17, 18, 19, 20, 21, 22, 23, 24, 25, 26, 27, 28, 43, 44, 45, 46, 47, 48, 49, 50, 51, 33, 34, 35, 36, 37, 38, 39, 40, 41, 42] rfl (by decide +kernel)
set_option maxHeartbeats 16000000 in
set_option maxRecDepth 100000 in
theorem zd_X0_tell (l : Launch) (D : va_G) (cI cZ cP cF : Nat) (q : Nat → Nat → Nat) (S : CST) (a1 : Int32) (a2 : Int32) (sz : Nat) (Post : CST → Int32 → Prop) (h : wp_X0_tell S a1 a2 Post) (hcap : cCap S) : MetV l yX0_tell zw_zd_X0_tell ({ frames := 3, cells := rmc S, slots := rms S, locals := 55 }) (va_Pc [.ref (q 1 0), .int a1, .int a2] (fun U => U.heap.size = sz ∧ va_P D vwCl (cW cI cZ cP cF q S) U.heap ∧ zF D cI cZ cP cF U ∧ va_D (fun _ => True) (cW cI cZ cP cF q S))) (xQi (fun S' r => Post S' r) (fun (q' : Nat → Nat → Nat) (S' : CST) k n t => va_P D vwCl (cW cI cZ cP cF q' S') t.heap ∧ va_D (va_A (cW cI cZ cP cF q S) sz) (cW cI cZ cP cF q' S') ∧ cA q S q' S' k n) (va_A (cW cI cZ cP cF q S) sz)) (va_A (cW cI cZ cP cF q S) sz) := by
  unfold wp_X0_tell at h
  refine MetV.ofW (cc := cX0_tell) (maxL := 3) (ret := (some .int)) (by decide) rfl ?_
  intro p e s m args below meth c s₁ B hml hv
  obtain ⟨rfl, hsz, hP, hE, hD0⟩ := hv
  have hx := B.exec
  have hb := B.bytes
  have hr := B.returns
  have hts := atoms_spec (ws := zw_zd_X0_tell) B.pre
  have hown : s.vm.findClass RX0 = some m.cls := findClass_of_methodNamed B.named
  have hlocks := B.notSynchronized
  have hK := hE.k
  subst hsz
  have hD := hD0.self (sz := s.heap.size)
  generalize hAe : va_A (cW cI cZ cP cF q S) s.heap.size = A at hD ⊢
  have hA : ∀ q : Nat, s.heap.size ≤ q → A q := fun q h => by rw [← hAe]; exact Or.inr h
  have hl := lv_entry ([.ref (q 1 0), .int a1, .int a2]) (n := 3) (Nat.le_of_ble_eq_true rfl)
  rw [lg_entry_eq]
  generalize (lg_sl ([.ref (q 1 0), .int a1, .int a2]) ++ List.replicate (3 - (lg_sl ([.ref (q 1 0), .int a1, .int a2])).length) Slot.unset).toArray = ls at hl ⊢
  have hl : lv_has ls 3 [(0, .ref (q 1 0)), (1, .int a1), (2, .int a2)] := hl
  have key : ∀ (H : Heap) (locs : List Loc) (cells slots : Nat), va_P D vwCl (cW cI cZ cP cF q S) H → va_S A s.heap H locs → cA q S q S cells slots → W p l e (headSpec zw_zd_X0_tell ({ frames := 3, cells := rmc S, slots := rms S, locals := 55 })).room s m ([.ref (q 1 0), .int a1, .int a2] : List Value).toArray below meth c H locs cells slots (MQV below (xQi (fun S' r => Post S' r) (fun (q' : Nat → Nat → Nat) (S' : CST) k n t => va_P D vwCl (cW cI cZ cP cF q' S') t.heap ∧ va_D A (cW cI cZ cP cF q' S') ∧ cA q S q' S' k n) A) ([.ref (q 1 0), .int a1, .int a2] : List Value).toArray s A) (F0 m 0 ls []) := by
    intro H locs cells slots hP hS hN
    refine lv_aload_n hx hb dX0_tell_0 rfl (lv_at hl 0 rfl) ?_
    obtain ⟨p_1, hp_1⟩ := cget_1 cI cZ cP cF q S
    have hi_1 : cin S 1 0 := Or.inl ⟨by decide, rfl⟩
    refine va_get (D := D) (ci := 0) (v := .int (cv S 11 0 0)) (C := RX0) (T := TX0) (N := 2) hx hb hts (fun _ h => List.mem_cons_of_mem _ (List.mem_append_left _ (List.mem_append_left _ (List.mem_append_right _ h)))) hown hK hP p_1 hp_1 rfl 1 (by decide) (hts (.fieldLink RX0 17 "TemplateForge$Book" "told" "I") (List.mem_of_getElem? (i := 1) rfl)) (fun _ h9 => h9) rfl dX0_tell_1 ?_
    refine lv_bipush (v := 8) hx hb dX0_tell_4 (by decide) ?_
    refine lv_icmp_lt (tgt := 12) hx hb dX0_tell_6 (by decide) (fun c_2 => ?_) (fun c_2 => ?_)
    · have h := h.1 c_2
      refine lv_aload_n hx hb dX0_tell_12 rfl (lv_at hl 0 rfl) ?_
      obtain ⟨p_3, hp_3⟩ := cget_1 cI cZ cP cF q S
      have hi_3 : cin S 1 0 := Or.inl ⟨by decide, rfl⟩
      refine va_get (D := D) (ci := 0) (v := .ref (q 2 0)) (C := RX0) (T := TX0) (N := 2) hx hb hts (fun _ h => List.mem_cons_of_mem _ (List.mem_append_left _ (List.mem_append_left _ (List.mem_append_right _ h)))) hown hK hP p_3 hp_3 rfl 0 (by decide) (hts (.fieldLink RX0 11 "TemplateForge$Book" "programs" "[LTemplateForge$Program;") (List.mem_of_getElem? (i := 2) rfl)) (fun _ h9 => h9) rfl dX0_tell_13 ?_
      refine lv_aload_n hx hb dX0_tell_16 rfl (lv_at hl 0 rfl) ?_
      obtain ⟨p_4, hp_4⟩ := cget_1 cI cZ cP cF q S
      have hi_4 : cin S 1 0 := Or.inl ⟨by decide, rfl⟩
      refine va_get (D := D) (ci := 0) (v := .int (cv S 11 0 0)) (C := RX0) (T := TX0) (N := 2) hx hb hts (fun _ h => List.mem_cons_of_mem _ (List.mem_append_left _ (List.mem_append_left _ (List.mem_append_right _ h)))) hown hK hP p_4 hp_4 rfl 1 (by decide) (hts (.fieldLink RX0 17 "TemplateForge$Book" "told" "I") (List.mem_of_getElem? (i := 1) rfl)) (fun _ h9 => h9) rfl dX0_tell_17 ?_
      obtain ⟨hw, ht0, htP, hc8, h⟩ := h
      obtain ⟨hc0, hs0⟩ := cA_zero hN
      subst hc0 hs0
      have hr1 : 8 ≤ rmc S := by unfold rmc; omega
      have hr2 : 232 ≤ rms S := by unfold rms; omega
      refine va_new (ci := 8) (fs := [.int 0, .int 0, .int 0, .null, .null, .null, .null, .int 0, .int 0, .null]) (C := RX8) (T := TX8) (N := 10) hx hb hts (fun _ h => List.mem_cons_of_mem _ (List.mem_append_left _ (List.mem_append_right _ h))) tyX8 tyX8_ok hown (hts (.classLink RX0 9 RX8) (List.mem_of_getElem? (i := 3) rfl)) (hts (.instantiable RX8 10) (List.mem_of_getElem? (i := 4) rfl)) (hts (.initialized RX8) (List.mem_of_getElem? (i := 5) rfl)) hK hP hD hS hA rfl (fun j hj => by rcases (show j = 0 ∨ j = 1 ∨ j = 2 ∨ j = 3 ∨ j = 4 ∨ j = 5 ∨ j = 6 ∨ j = 7 ∨ j = 8 ∨ j = 9 by omega) with rfl | rfl | rfl | rfl | rfl | rfl | rfl | rfl | rfl | rfl <;> rfl) (by show 0 + 1 ≤ rmc S; omega) (by show 0 + 10 ≤ rms S; omega) dX0_tell_20 (fun b0 H hP hD hS => ?_)
      refine lv_dup hx hb dX0_tell_23 rfl ?_
      refine lv_aload_n hx hb dX0_tell_24 rfl (lv_at hl 0 rfl) ?_
      obtain ⟨p_91, hp_91⟩ := cgl (L := [(b0, .inr (8, [.int 0, .int 0, .int 0, .null, .null, .null, .null, .int 0, .int 0, .null]))]) (cget_1 cI cZ cP cF q S)
      refine va_get (D := D) (ci := 0) (v := .int (cv S 11 0 0)) (C := RX0) (T := TX0) (N := 2) hx hb hts (fun _ h => List.mem_cons_of_mem _ (List.mem_append_left _ (List.mem_append_left _ (List.mem_append_right _ h)))) hown hK hP p_91 hp_91 rfl 1 (by decide) (hts (.fieldLink RX0 17 "TemplateForge$Book" "told" "I") (List.mem_of_getElem? (i := 1) rfl)) (fun _ h9 => h9) rfl dX0_tell_25 ?_
      refine lv_iload_n hx hb dX0_tell_28 rfl (lv_at hl 1 rfl) ?_
      refine lv_iload_n hx hb dX0_tell_29 rfl (lv_at hl 2 rfl) ?_
      have hp_93 : (cW cI cZ cP cF q S ++ [(b0, .inr (8, [.int 0, .int 0, .int 0, .null, .null, .null, .null, .int 0, .int 0, .null]))])[(cW cI cZ cP cF q S).length + 0]? = some (b0, .inr (8, [.int 0, .int 0, .int 0, .null, .null, .null, .null, .int 0, .int 0, .null])) := cgr rfl
      have hPc := one_P hP hp_93
      have hDc := one_D hD hp_93
      have hFc := one_F hD hS hA hp_93
      refine va_callv (va_runI (As := [.int (cv S 11 0 0), .int a1, .int a2]) (rest := [.ref b0, .int (cv S 11 0 0), .ref (q 2 0)]) ⟨hx, hb, hml, hown, hts⟩ (zc_X8_init l D cI cZ cP cF b0 (cv S 11 0 0) a1 a2 H.size) (cwI 3 hts zg_tell_init rfl rfl rfl (hts (.initialized RX8) (List.mem_of_getElem? (i := 5) rfl)) (hts (.methodLink RX0 21 yX8_init) (List.mem_of_getElem? (i := 29) rfl)) (hts (.instanceMethod yX8_init) (List.mem_of_getElem? (i := 30) rfl)) rfl (by decide +kernel) ⟨Nat.le_of_ble_eq_true rfl, Nat.le_of_ble_eq_true rfl⟩) ⟨zBW, fun U hU hW => ⟨rfl, by rw [hU], by rw [hU]; exact hPc, hE.1.warm hW, hDc.weaken (fun _ _ _ _ => trivial)⟩⟩ rfl rfl hl.1 rfl (lv_room (Nat.le_of_ble_eq_true rfl)) dX0_tell_30 ⟨by show 0 + 1 + 7 ≤ rmc S; omega, by show 0 + 10 + 222 ≤ rms S; omega⟩) hS (fun q _ h => hFc q h) hFc (fun u t H locs ht hvm _ hB hz1 hk1 hS => ?_)
      obtain ⟨b1, b2, b3, b4, b5, b6, b7, hP1, hD1⟩ := hB
      rw [ht] at hP1
      obtain ⟨hP, hD⟩ := cx_join hP hD hp_93 hk1 hP1 hD1 hFc
      rw [set_app, List.append_assoc] at hP hD
      obtain ⟨q1, hq1, hqa, hP, hD⟩ := cW_addP (num := (cv S 11 0 0)) (args := a1) (locals := a2) hw hP hD
      obtain ⟨S1, eS1⟩ : ∃ z, z = addP S (cv S 11 0 0) a1 a2 := ⟨_, rfl⟩
      rw [← eS1] at hP hD
      have e_1 : q1 1 0 = q 1 0 := hq1 1 0 (Or.inl ⟨by decide, rfl⟩)
      have e_2 : q1 2 0 = q 2 0 := hq1 2 0 (Or.inl ⟨by decide, rfl⟩)
      have hN : cA q S q1 S1 (0 + 1 + 7) (0 + 10 + 222) := by
        rw [eS1]
        exact ⟨hq1, Nat.le_succ _, Nat.le_refl _, hc8, hcap.2, by show 0 + 1 + 7 ≤ 8 * (cnP S + 1 - cnP S) + 3 * (cnC S - cnC S); omega, by show 0 + 10 + 222 ≤ 232 * (cnP S + 1 - cnP S) + 7619 * (cnC S - cnC S); omega⟩
      have hl : lv_has ls 3 [(0, .ref (q1 1 0)), (1, .int a1), (2, .int a2)] := by simp only [e_1]; exact hl
      refine W.eq (g2 := F0 m 33 ls [.ref (q1 24 (cnP S)), .int (cv S 11 0 0), .ref (q1 2 0)]) (by simp only [e_2, hqa] <;> rfl) ?_
      obtain ⟨p_94, hp_94⟩ := cget_2 cI cZ cP cF q1 S1
      have hi24 : cin S1 24 (cnP S) := by rw [eS1]; exact Or.inr (Or.inr (Or.inl ⟨by decide, by decide, Nat.lt_succ_self _⟩))
      obtain ⟨p_95, hp_95⟩ := cget_24 cI cZ cP cF q1 S1 hi24
      have hin_9 : vp_in (cv S 11 0 0) 8 := fun w => w.elim ht0 (fun w2 => by omega)
      have hD0_9 := hD
      have h := h S1 eS1
      refine va_astq hx hb hK hP hD hS p_94 2 p_95 8 hp_94 rfl hp_95 rfl hin_9 dX0_tell_33 (fun H locs hP hD hS => ?_)
      obtain ⟨S2, eS2⟩ : ∃ z, z = cs S1 20 0 (upd (cv S1 20 0) ((cv S 11 0 0) : Int32).toNatClampNeg (nI (cnP S))) := ⟨_, rfl⟩
      have hP : va_P D vwCl (cW cI cZ cP cF q1 S2) H := by rw [eS2, ← cW_put (k := 20) (κ := 2) (i := 0) (g := (upd (cv S1 20 0) ((cv S 11 0 0) : Int32).toNatClampNeg (nI (cnP S)))) rfl hD0_9 hp_94 (Or.inl ⟨by decide, rfl⟩), cput_20, cno_up (by omega)]; exact hP
      have hD : va_D A (cW cI cZ cP cF q1 S2) := by rw [eS2, ← cW_put (k := 20) (κ := 2) (i := 0) (g := (upd (cv S1 20 0) ((cv S 11 0 0) : Int32).toNatClampNeg (nI (cnP S)))) rfl hD0_9 hp_94 (Or.inl ⟨by decide, rfl⟩), cput_20, cno_up (by omega)]; exact hD
      have hN : cA q S q1 S2 (0 + 1 + 7) (0 + 10 + 222) := by rw [eS2]; exact hN
      have h := h S2 eS2
      generalize 0 + 1 + 7 = cells at hN ⊢
      generalize 0 + 10 + 222 = slots at hN ⊢
      refine lv_aload_n hx hb dX0_tell_34 rfl (lv_at hl 0 rfl) ?_
      refine lv_dup hx hb dX0_tell_35 rfl ?_
      obtain ⟨p_5, hp_5⟩ := cget_1 cI cZ cP cF q1 S2
      have hi_5 : cin S2 1 0 := Or.inl ⟨by decide, rfl⟩
      refine va_get (D := D) (ci := 0) (v := .int (cv S2 11 0 0)) (C := RX0) (T := TX0) (N := 2) hx hb hts (fun _ h => List.mem_cons_of_mem _ (List.mem_append_left _ (List.mem_append_left _ (List.mem_append_right _ h)))) hown hK hP p_5 hp_5 rfl 1 (by decide) (hts (.fieldLink RX0 17 "TemplateForge$Book" "told" "I") (List.mem_of_getElem? (i := 1) rfl)) (fun _ h9 => h9) rfl dX0_tell_36 ?_
      refine lv_iconst (v := 1) hx hb dX0_tell_39 (by decide) ?_
      refine lv_iadd hx hb dX0_tell_40 ?_
      obtain ⟨p_6, hp_6⟩ := cget_1 cI cZ cP cF q1 S2
      have hi_6 : cin S2 1 0 := Or.inl ⟨by decide, rfl⟩
      have hD0_6 := hD
      refine va_put (D := D) (ci := 0) (v := .int ((cv S2 11 0 0) + 1)) (ty := .int) (C := RX0) (T := TX0) (N := 2) hx hb hts (fun _ h => List.mem_cons_of_mem _ (List.mem_append_left _ (List.mem_append_left _ (List.mem_append_right _ h)))) tyX0 tyX0_ok nmX0 hown hK hP hD hS p_6 hp_6 rfl 1 (by decide) (hts (.fieldLink RX0 17 "TemplateForge$Book" "told" "I") (List.mem_of_getElem? (i := 1) rfl)) (fun _ h9 => h9) rfl (by decide +kernel) rfl rfl (Nat.le_of_ble_eq_true rfl) dX0_tell_41 (fun H locs hP hD hS => ?_)
      obtain ⟨S7, eS7⟩ : ∃ z, z = cs S2 11 0 (fun _ => (cv S2 11 0 0) + 1) := ⟨_, rfl⟩
      have hP : va_P D vwCl (cW cI cZ cP cF q1 S7) H := by rw [eS7, ← cW_put (k := 11) (κ := 1) (i := 0) (g := (fun _ => (cv S2 11 0 0) + 1)) rfl hD0_6 hp_6 hi_6, cput_11]; exact hP
      have hD : va_D A (cW cI cZ cP cF q1 S7) := by rw [eS7, ← cW_put (k := 11) (κ := 1) (i := 0) (g := (fun _ => (cv S2 11 0 0) + 1)) rfl hD0_6 hp_6 hi_6, cput_11]; exact hD
      have hN := cA_keep hN (S2 := S7) ((congrArg Prod.snd eS7).trans rfl)
      have h := h S7 eS7
      refine lv_aload_n hx hb dX0_tell_44 rfl (lv_at hl 0 rfl) ?_
      obtain ⟨p_8, hp_8⟩ := cget_1 cI cZ cP cF q1 S7
      have hi_8 : cin S7 1 0 := Or.inl ⟨by decide, rfl⟩
      refine va_get (D := D) (ci := 0) (v := .int (cv S7 11 0 0)) (C := RX0) (T := TX0) (N := 2) hx hb hts (fun _ h => List.mem_cons_of_mem _ (List.mem_append_left _ (List.mem_append_left _ (List.mem_append_right _ h)))) hown hK hP p_8 hp_8 rfl 1 (by decide) (hts (.fieldLink RX0 17 "TemplateForge$Book" "told" "I") (List.mem_of_getElem? (i := 1) rfl)) (fun _ h9 => h9) rfl dX0_tell_45 ?_
      refine lv_iconst (v := 1) hx hb dX0_tell_48 (by decide) ?_
      refine lv_isub hx hb dX0_tell_49 ?_
      exact zV_i (v := (cv S7 11 0 0) - 1) hx hb hr (fun t ht hW => ⟨⟨_, q1, S7, rfl, h, by rw [ht]; exact hP, hD, hN⟩, hS.F ht⟩) hS.2.2 dX0_tell_50 hlocks
    · have h := h.2 c_2
      refine lv_bipush (v := (-4)) hx hb dX0_tell_9 (by decide) ?_
      exact zV_i (v := (-4)) hx hb hr (fun t ht hW => ⟨⟨_, q, S, rfl, h, by rw [ht]; exact hP, hD, hN⟩, hS.F ht⟩) hS.2.2 dX0_tell_11 hlocks
  exact key _ _ 0 0 hP va_S.rf (cA_rf hcap)

