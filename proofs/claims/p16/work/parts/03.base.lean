/-! WHAT IS KNOWN OF THE TABLES at any state of p1's walks: the classes, the four kinds of arrays (int, boolean, Program, Frame), what private constructors of nest mates link -/
def zE (D : va_G) (cI cZ cP cF : Nat) (U : State) : Prop :=
  va_K D vwCl [(cI, .int), (cZ, .boolean), (cP, .object RX8), (cF, .object RX4)] U ∧ va_AO RX8 U ∧ va_AO RX4 U ∧ va_Nw (.methodLinkNest RX11 11 yX3_init "TemplateForge") U ∧ va_Nw (.methodLinkNest RX11 14 yX0_init "TemplateForge") U ∧ va_Nw (.methodLinkNest RX7 11 yX10_init "TemplateForge") U ∧ va_Nw (.methodLinkNest RX7 45 yX4_init "TemplateForge") U ∧ va_Nw (.methodLinkNest RX8 11 yX5_init "TemplateForge") U
theorem zE.k {D : va_G} {cI cZ cP cF : Nat} {U : State} (h : zE D cI cZ cP cF U) : va_K D vwCl [(cI, .int), (cZ, .boolean), (cP, .object RX8), (cF, .object RX4)] U := h.1
theorem zE.aoP {D : va_G} {cI cZ cP cF : Nat} {U : State} (h : zE D cI cZ cP cF U) : va_AO RX8 U := h.2.1
theorem zE.aoF {D : va_G} {cI cZ cP cF : Nat} {U : State} (h : zE D cI cZ cP cF U) : va_AO RX4 U := h.2.2.1
theorem zE.nX11_11 {D : va_G} {cI cZ cP cF : Nat} {U : State} (h : zE D cI cZ cP cF U) : va_Nw (.methodLinkNest RX11 11 yX3_init "TemplateForge") U := h.2.2.2.1
theorem zE.nX11_14 {D : va_G} {cI cZ cP cF : Nat} {U : State} (h : zE D cI cZ cP cF U) : va_Nw (.methodLinkNest RX11 14 yX0_init "TemplateForge") U := h.2.2.2.2.1
theorem zE.nX7_11 {D : va_G} {cI cZ cP cF : Nat} {U : State} (h : zE D cI cZ cP cF U) : va_Nw (.methodLinkNest RX7 11 yX10_init "TemplateForge") U := h.2.2.2.2.2.1
theorem zE.nX7_45 {D : va_G} {cI cZ cP cF : Nat} {U : State} (h : zE D cI cZ cP cF U) : va_Nw (.methodLinkNest RX7 45 yX4_init "TemplateForge") U := h.2.2.2.2.2.2.1
theorem zE.nX8_11 {D : va_G} {cI cZ cP cF : Nat} {U : State} (h : zE D cI cZ cP cF U) : va_Nw (.methodLinkNest RX8 11 yX5_init "TemplateForge") U := h.2.2.2.2.2.2.2
theorem zE.warm {D : va_G} {cI cZ cP cF : Nat} {s U : State} (h : zE D cI cZ cP cF s) (hW : s.WarmedH U.vm) : zE D cI cZ cP cF U :=
  ⟨va_K.moved hW.alike h.1, va_AO.moved hW.alike h.2.1, va_AO.moved hW.alike h.2.2.1, va_Nw.warmM hW h.nX11_11, va_Nw.warmM hW h.nX11_14, va_Nw.warmM hW h.nX7_11, va_Nw.warmM hW h.nX7_45, va_Nw.warmM hW h.nX8_11⟩
theorem zE.same {D : va_G} {cI cZ cP cF : Nat} {s U : State} (h : zE D cI cZ cP cF s) (e : s.vm = U.vm) : zE D cI cZ cP cF U :=
  ⟨va_K.moved (by rw [e]; exact Vm.Alike.refl U.vm) h.1, va_AO.moved (by rw [e]; exact Vm.Alike.refl U.vm) h.2.1, va_AO.moved (by rw [e]; exact Vm.Alike.refl U.vm) h.2.2.1, va_Nw.same rfl e h.nX11_11, va_Nw.same rfl e h.nX11_14, va_Nw.same rfl e h.nX7_11, va_Nw.same rfl e h.nX7_45, va_Nw.same rfl e h.nX8_11⟩
theorem zBR {D : va_G} {cI cZ cP cF : Nat} {av : List Value} {ws : va_W} : FrameBlind (va_Pc av (fun U => va_P D vwCl ws U.heap ∧ zE D cI cZ cP cF U)) := fun _ _ _ _ q => ⟨q.1, q.2.1, zE.same q.2.2 rfl⟩
theorem zBW {D : va_G} {cI cZ cP cF : Nat} {av : List Value} {ws : va_W} {sz : Nat} : FrameBlind (va_Pc av (fun U => U.heap.size = sz ∧ va_P D vwCl ws U.heap ∧ zE D cI cZ cP cF U ∧ va_D (fun _ => True) ws)) := fun _ _ _ _ q => ⟨q.1, q.2.1, q.2.2.1, zE.same q.2.2.2.1 rfl, q.2.2.2.2⟩
section ZNEW
variable {p : Program} {l : Launch} {e : Env} {R : Room} {s : State} {m : MethodId} {args : Array Value} {below : List Frame} {meth : Method} {c : Code} {H : Heap} {locs : List Loc} {cells slots : Nat} {Q : State → Prop}
variable {cc : ByteArray} {pc : Nat} {ls : Array Slot} {rest : List Value} {D : va_G} {cl : List vw_C} {A : Nat → Prop} {tys : List (ClassId × FieldType)} {ws : va_W} {H0 : Heap}
theorem z_newI (hexec : p.tables.exec = Jvm.exec) (hb : c.code = cc) (harr : (Cond.arrayClass .int).before args s = true) (hK : va_K D cl tys s) {cI : ClassId} (t0 : Nat) (ht : tys[t0]? = some (cI, .int)) (hP : va_P D cl ws H) (hD : va_D A ws) (hS : va_S A H0 H locs) (hA : ∀ q, H0.size ≤ q → A q)
    {n : Int32} {N' : Nat} (hn : ¬ n < 0) (hN : n.toNatClampNeg = N') (hbytes : N' * 4 ≤ 536870912) (hcells : cells + 1 ≤ R.cells) (hslots : slots + N' ≤ R.slots) (hdg : decode cc pc = .ok (.newarray .int, 2))
    (kk : ∀ (q : Nat) (H1 : Heap), va_P D cl (ws ++ [(q, .inl (cI, N', .inl (fun _ => 0)))]) H1 → va_D A (ws ++ [(q, .inl (cI, N', .inl (fun _ => 0)))]) → va_S A H0 H1 locs →
      W p l e R s m args below meth c H1 locs (cells + 1) (slots + N') Q (F0 m (pc + 2) ls (.ref q :: rest))) : W p l e R s m args below meth c H locs cells slots Q (F0 m pc ls (.int n :: rest)) := by
  refine va_newa (atype := .int) (ty := .int) hexec hb harr rfl hK hP hD hS hA (a0 := (N', .inl (fun _ => 0))) (fun cA => rfl) hn hN hbytes hcells hslots hdg (fun q cA H1 hK1 hP hD hS => ?_)
  have h1 := va_nm_int ((hK1.2 tys.length (cA, .int) (by simp)).2)
  have h2 := va_nm_int ((hK.2 t0 _ ht).2)
  rw [h1] at h2
  obtain rfl := Option.some.inj h2
  exact kk q H1 hP hD hS
theorem z_newZ (hexec : p.tables.exec = Jvm.exec) (hb : c.code = cc) (harr : (Cond.arrayClass .boolean).before args s = true) (hK : va_K D cl tys s) {cI : ClassId} (t0 : Nat) (ht : tys[t0]? = some (cI, .boolean)) (hP : va_P D cl ws H) (hD : va_D A ws) (hS : va_S A H0 H locs) (hA : ∀ q, H0.size ≤ q → A q)
    {n : Int32} {N' : Nat} (hn : ¬ n < 0) (hN : n.toNatClampNeg = N') (hbytes : N' * 1 ≤ 536870912) (hcells : cells + 1 ≤ R.cells) (hslots : slots + N' ≤ R.slots) (hdg : decode cc pc = .ok (.newarray .boolean, 2))
    (kk : ∀ (q : Nat) (H1 : Heap), va_P D cl (ws ++ [(q, .inl (cI, N', .inl (fun _ => 0)))]) H1 → va_D A (ws ++ [(q, .inl (cI, N', .inl (fun _ => 0)))]) → va_S A H0 H1 locs →
      W p l e R s m args below meth c H1 locs (cells + 1) (slots + N') Q (F0 m (pc + 2) ls (.ref q :: rest))) : W p l e R s m args below meth c H locs cells slots Q (F0 m pc ls (.int n :: rest)) := by
  refine va_newa (atype := .boolean) (ty := .boolean) hexec hb harr rfl hK hP hD hS hA (a0 := (N', .inl (fun _ => 0))) (fun cA => rfl) hn hN hbytes hcells hslots hdg (fun q cA H1 hK1 hP hD hS => ?_)
  have h1 := va_nm_boolean ((hK1.2 tys.length (cA, .boolean) (by simp)).2)
  have h2 := va_nm_boolean ((hK.2 t0 _ ht).2)
  rw [h1] at h2
  obtain rfl := Option.some.inj h2
  exact kk q H1 hP hD hS
theorem z_newQ (hexec : p.tables.exec = Jvm.exec) (hb : c.code = cc) {own C : String} {index : Nat} (hown : s.vm.findClass own = some m.cls) (hclink : (Cond.classLink own index C).before args s = true) (hover : va_AO C s) (hK : va_K D cl tys s) {cI : ClassId} (t0 : Nat) (ht : tys[t0]? = some (cI, .object C)) (hP : va_P D cl ws H) (hD : va_D A ws) (hS : va_S A H0 H locs) (hA : ∀ q, H0.size ≤ q → A q)
    {n : Int32} {N' : Nat} (hn : ¬ n < 0) (hN : n.toNatClampNeg = N') (hbytes : N' * 4 ≤ 536870912) (hcells : cells + 1 ≤ R.cells) (hslots : slots + N' ≤ R.slots) (hdg : decode cc pc = .ok (.anewarray index, 3))
    (kk : ∀ (q : Nat) (H1 : Heap), va_P D cl (ws ++ [(q, .inl (cI, N', .inr (.inr (.inr (.inr (fun _ => none))))))]) H1 → va_D A (ws ++ [(q, .inl (cI, N', .inr (.inr (.inr (.inr (fun _ => none))))))]) → va_S A H0 H1 locs →
      W p l e R s m args below meth c H1 locs (cells + 1) (slots + N') Q (F0 m (pc + 3) ls (.ref q :: rest))) : W p l e R s m args below meth c H locs cells slots Q (F0 m pc ls (.int n :: rest)) := by
  refine va_newq hexec hb hown hclink hover hK hP hD hS hA hn hN hbytes hcells hslots hdg (fun q cA H1 hK1 hP hD hS => ?_)
  obtain ⟨_, _, _, _, _, h1⟩ := (hK1.2 tys.length (cA, .object C) (by simp)).2
  obtain ⟨_, _, _, _, _, h2⟩ := (hK.2 t0 _ ht).2
  rw [h1] at h2
  obtain rfl := Option.some.inj h2
  exact kk q H1 hP hD hS
end ZNEW
/-! answers, in numbers -/
def zM4 (g : Nat → Int32) : Prop := ∀ k : Nat, k < 4 → g k = -1
def zsel (f M a b : Int32) : Int32 := if f < 0 then a else if f < M then b else a
def zmeth (a l : Int32) : Int32 := if a < 0 then -2 else if 3 < a then -2 else if l < a then -2 else if l ≤ 6 then 0 else -2
def vin (v lo hi : Int64) : Int32 := if v < lo then 0 else if hi < v then 0 else 1
def zcount (w : Int32) : Int32 := if w.toInt < 0 ∨ 5 < w.toInt then -2 else 0
theorem z_in {i M : Int32} {n : Nat} (hM : M.toInt = n) (h1 : ¬ i < 0) (h2 : ¬ M ≤ i) : vp_in i n := by
  unfold vp_in
  rw [Int32.lt_iff_toInt_lt] at h1
  rw [Int32.le_iff_toInt_le] at h2
  have h0 : (0 : Int32).toInt = 0 := by decide
  have h3 : i.toNatClampNeg = i.toInt.toNat := rfl
  rintro (h | h)
  · rw [Int32.lt_iff_toInt_lt] at h; omega
  · rw [h3] at h; omega
theorem z_m1 {i : Int32} (h1 : ¬ i < 0) : (-1 : Int32) ≤ i := by
  rw [Int32.lt_iff_toInt_lt] at h1
  rw [Int32.le_iff_toInt_le]
  have h0 : (0 : Int32).toInt = 0 := by decide
  have h3 : (-1 : Int32).toInt = -1 := by decide
  omega
theorem zM4_4 (f : Nat → Int32) : zM4 (upd (upd (upd (upd f (0 : Int32).toNatClampNeg (-1)) (1 : Int32).toNatClampNeg (-1)) (2 : Int32).toNatClampNeg (-1)) (3 : Int32).toNatClampNeg (-1)) := by
  intro k hk
  have e0 : (0 : Int32).toNatClampNeg = 0 := by decide
  have e1 : (1 : Int32).toNatClampNeg = 1 := by decide
  have e2 : (2 : Int32).toNatClampNeg = 2 := by decide
  have e3 : (3 : Int32).toNatClampNeg = 3 := by decide
  rw [e0, e1, e2, e3]
  rcases (show k = 0 ∨ k = 1 ∨ k = 2 ∨ k = 3 by omega) with rfl | rfl | rfl | rfl <;> simp [upd]
theorem z_tab5 (x : Int32) : (x.toInt < 0 ∨ 5 < x.toInt) ∨ x = 0 ∨ x = 1 ∨ x = 2 ∨ x = 3 ∨ x = 4 ∨ x = 5 := by
  by_cases h : x.toInt < 0 ∨ 5 < x.toInt
  · exact Or.inl h
  · right
    have e : ∀ c : Int32, x.toInt = c.toInt → x = c := fun c hc => Int32.toInt.inj hc
    have : x.toInt = 0 ∨ x.toInt = 1 ∨ x.toInt = 2 ∨ x.toInt = 3 ∨ x.toInt = 4 ∨ x.toInt = 5 := by omega
    rcases this with h | h | h | h | h | h
    · exact Or.inl (e 0 (by rw [h]; decide))
    · exact Or.inr (Or.inl (e 1 (by rw [h]; decide)))
    · exact Or.inr (Or.inr (Or.inl (e 2 (by rw [h]; decide))))
    · exact Or.inr (Or.inr (Or.inr (Or.inl (e 3 (by rw [h]; decide)))))
    · exact Or.inr (Or.inr (Or.inr (Or.inr (Or.inl (e 4 (by rw [h]; decide))))))
    · exact Or.inr (Or.inr (Or.inr (Or.inr (Or.inr (e 5 (by rw [h]; decide))))))
/-! the reference's own 'in' -/
theorem vin_0 {v lo hi : Int64} (h : vin v lo hi = 0) : v < lo ∨ hi < v := by
  unfold vin at h
  by_cases h1 : v < lo
  · exact Or.inl h1
  · rw [if_neg h1] at h
    by_cases h2 : hi < v
    · exact Or.inr h2
    · rw [if_neg h2] at h
      exact absurd h (by decide)
theorem vin_1 {v lo hi : Int64} (h : ¬ vin v lo hi = 0) : ¬ v < lo ∧ ¬ hi < v := by
  unfold vin at h
  by_cases h1 : v < lo
  · rw [if_pos h1] at h; exact absurd rfl h
  · rw [if_neg h1] at h
    by_cases h2 : hi < v
    · rw [if_pos h2] at h; exact absurd rfl h
    · exact ⟨h1, h2⟩
theorem z_no {v lo hi : Int64} (h : lo.toInt > hi.toInt) : vin v lo hi = 0 := by
  unfold vin
  by_cases h1 : v < lo
  · rw [if_pos h1]
  · rw [if_neg h1]
    by_cases h2 : hi < v
    · rw [if_pos h2]
    · rw [Int64.lt_iff_toInt_lt] at h1 h2; omega
theorem z_lt_iff (f M : Int32) : f < M ↔ f.toInt < M.toInt := Int32.lt_iff_toInt_lt
theorem zk_out {f M a b : Int32} {hi : Int64} (hM : hi.toInt + 1 = M.toInt) (h : vin f.toInt64 0 hi = 0) : zsel f M a b = a := by
  have h0 : (0 : Int64).toInt = 0 := by decide
  have h00 : (0 : Int32).toInt = 0 := by decide
  rcases vin_0 h with h | h
  · rw [Int64.lt_iff_toInt_lt, Int32.toInt_toInt64, h0] at h
    unfold zsel
    rw [if_pos ((z_lt_iff f 0).mpr (by omega))]
  · rw [Int64.lt_iff_toInt_lt, Int32.toInt_toInt64] at h
    unfold zsel
    rw [if_neg (c := f < M) (fun q => by have := (z_lt_iff f M).mp q; omega)]
    split <;> rfl
theorem zk_in {f M a b : Int32} {hi : Int64} (hM : hi.toInt + 1 = M.toInt) (h : ¬ vin f.toInt64 0 hi = 0) : zsel f M a b = b := by
  have h0 : (0 : Int64).toInt = 0 := by decide
  have h00 : (0 : Int32).toInt = 0 := by decide
  obtain ⟨h1, h2⟩ := vin_1 h
  rw [Int64.lt_iff_toInt_lt, Int32.toInt_toInt64] at h1 h2
  unfold zsel
  rw [if_neg (fun q => by have := (z_lt_iff f 0).mp q; omega), if_pos ((z_lt_iff f M).mpr (by omega))]
theorem zi_in {f : Int32} {hi : Int64} {n : Nat} (hM : hi.toInt + 1 = n) (h : ¬ vin f.toInt64 0 hi = 0) : vp_in f n := by
  have h0 : (0 : Int64).toInt = 0 := by decide
  have h00 : (0 : Int32).toInt = 0 := by decide
  obtain ⟨h1, h2⟩ := vin_1 h
  rw [Int64.lt_iff_toInt_lt, Int32.toInt_toInt64] at h1 h2
  have h3 : f.toNatClampNeg = f.toInt.toNat := rfl
  unfold vp_in
  rintro (h | h)
  · rw [Int32.lt_iff_toInt_lt] at h; omega
  · rw [h3] at h; omega
theorem zm1 {a l : Int32} (h : vin a.toInt64 0 3 = 0) : zmeth a l = -2 := by
  have h0 : (0 : Int64).toInt = 0 := by decide
  have h3 : (3 : Int64).toInt = 3 := by decide
  have h00 : (0 : Int32).toInt = 0 := by decide
  have h33 : (3 : Int32).toInt = 3 := by decide
  rcases vin_0 h with h | h
  · rw [Int64.lt_iff_toInt_lt, Int32.toInt_toInt64] at h
    unfold zmeth
    rw [if_pos ((z_lt_iff a 0).mpr (by omega))]
  · rw [Int64.lt_iff_toInt_lt, Int32.toInt_toInt64] at h
    unfold zmeth
    rw [if_pos (c := 3 < a) ((z_lt_iff 3 a).mpr (by omega))]
    split <;> rfl
theorem zm2 {a l : Int32} (h : ¬ vin a.toInt64 0 3 = 0) (g : vin l.toInt64 a.toInt64 6 = 0) : zmeth a l = -2 := by
  have h0 : (0 : Int64).toInt = 0 := by decide
  have h3 : (3 : Int64).toInt = 3 := by decide
  have h6 : (6 : Int64).toInt = 6 := by decide
  have h00 : (0 : Int32).toInt = 0 := by decide
  have h33 : (3 : Int32).toInt = 3 := by decide
  have h66 : (6 : Int32).toInt = 6 := by decide
  obtain ⟨h1, h2⟩ := vin_1 h
  rw [Int64.lt_iff_toInt_lt, Int32.toInt_toInt64] at h1 h2
  unfold zmeth
  rw [if_neg (fun q => by have := (z_lt_iff a 0).mp q; omega), if_neg (fun q => by have := (z_lt_iff 3 a).mp q; omega)]
  rcases vin_0 g with g | g
  · rw [Int64.lt_iff_toInt_lt, Int32.toInt_toInt64, Int32.toInt_toInt64] at g
    rw [if_pos ((z_lt_iff l a).mpr (by omega))]
  · rw [Int64.lt_iff_toInt_lt, Int32.toInt_toInt64] at g
    rw [if_neg (c := l ≤ 6) (fun q => by rw [Int32.le_iff_toInt_le] at q; omega)]
    split <;> rfl
theorem zm3 {a l : Int32} (h : ¬ vin a.toInt64 0 3 = 0) (g : ¬ vin l.toInt64 a.toInt64 6 = 0) : zmeth a l = 0 := by
  have h0 : (0 : Int64).toInt = 0 := by decide
  have h3 : (3 : Int64).toInt = 3 := by decide
  have h6 : (6 : Int64).toInt = 6 := by decide
  have h00 : (0 : Int32).toInt = 0 := by decide
  have h33 : (3 : Int32).toInt = 3 := by decide
  have h66 : (6 : Int32).toInt = 6 := by decide
  obtain ⟨h1, h2⟩ := vin_1 h
  obtain ⟨g1, g2⟩ := vin_1 g
  rw [Int64.lt_iff_toInt_lt, Int32.toInt_toInt64] at h1 h2 g2
  rw [Int64.lt_iff_toInt_lt, Int32.toInt_toInt64, Int32.toInt_toInt64] at g1
  unfold zmeth
  rw [if_neg (fun q => by have := (z_lt_iff a 0).mp q; omega), if_neg (fun q => by have := (z_lt_iff 3 a).mp q; omega), if_neg (fun q => by have := (z_lt_iff l a).mp q; omega), if_pos (by rw [Int32.le_iff_toInt_le]; omega)]
