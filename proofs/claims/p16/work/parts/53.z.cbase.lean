/-! THE CLASS's contracts: what is known of the tables, statics that nobody writes, contracts whose making is told behind -/
def zTK (j : Nat) : Int32 := [0, 0, 1, 2, 2, 2, 2, 2, 2, 0, 1, 0, 1, 0, 1, 1, 1, 2, 1, 1].getD j 0
def zLY (j : Nat) : Int32 := [1, 1, 0, 1, 1, 1, 1, 1, 1, 0, 0, 1, 0, 1, 0, 0, 1, 0, 2, 0].getD j 0
def zT (A : Nat → Prop) (U : State) (H : Heap) : Prop := ∃ t1 t2 : Nat, va_Z RX11 "TAKES" "[I" (.ref t1) A U H ∧ va_T .int t1 20 (fun j => .int (zTK j)) A U H ∧ va_Z RX11 "LAYS" "[I" (.ref t2) A U H ∧ va_T .int t2 20 (fun j => .int (zLY j)) A U H
def zNm (W : va_W) : Nat → Prop := fun b => ∃ (k : Nat) (e : va_E), W[k]? = some (b, e)
theorem va_Z_A {C n d : String} {v : Value} {A B : Nat → Prop} {U : State} {H : Heap} (h : va_Z C n d v A U H) (hB : ∀ q : Nat, q < H.size → B q → A q) : va_Z C n d v B U H := by
  obtain ⟨cf, kf, fi, f, a, cell, h1, h2, h3, h4, h5, h6, h7, h8⟩ := h
  exact ⟨cf, kf, fi, f, a, cell, h1, h2, h3, h4, h5, h6, h7, fun q => h8 (hB a (Array.getElem?_eq_some_iff.mp h5).1 q)⟩
theorem va_T_A {ty : FieldType} {t N : Nat} {f : Nat → Value} {A B : Nat → Prop} {U : State} {H : Heap} (h : va_T ty t N f A U H) (hB : ∀ q : Nat, q < H.size → B q → A q) : va_T ty t N f B U H := by
  obtain ⟨cell, h1, h2, h3, h4, h5, h6, h7⟩ := h
  exact ⟨cell, h1, h2, h3, h4, h5, h6, fun q => h7 (hB t (Array.getElem?_eq_some_iff.mp h1).1 q)⟩
theorem zT_A {A B : Nat → Prop} {U : State} {H : Heap} (h : zT A U H) (hB : ∀ q : Nat, q < H.size → B q → A q) : zT B U H := by
  obtain ⟨t1, t2, h1, h2, h3, h4⟩ := h
  exact ⟨t1, t2, va_Z_A h1 hB, va_T_A h2 hB, va_Z_A h3 hB, va_T_A h4 hB⟩
theorem zT_self {W : va_W} {U : State} (h : zT (zNm W) U U.heap) : zT (va_A W U.heap.size) U U.heap := zT_A h (fun q hq hA => hA.elim id (fun w => absurd hq (Nat.not_lt.mpr w)))
/-- later in a walk, and at a callee's start -/
theorem zT_move {A B : Nat → Prop} {s U : State} {H : Heap} {locs : List Loc} (h : zT A s s.heap) (hS : va_S A s.heap H locs) (hB : ∀ q : Nat, B q → A q) (hvm : s.vm.Alike U.vm) (hU : U.heap = H) : zT B U U.heap := by
  obtain ⟨t1, t2, h1, h2, h3, h4⟩ := h
  rw [hU]
  have hk : ∀ a : Nat, a < s.heap.size → ¬ A a → H[a]? = s.heap[a]? := hS.2.1
  exact ⟨t1, t2, va_Z.moved hvm (va_Z.narrow (va_Z.kept h1 hk) hB), va_T.moved hvm (va_T.narrow (va_T.kept h2 hk) hB), va_Z.moved hvm (va_Z.narrow (va_Z.kept h3 hk) hB), va_T.moved hvm (va_T.narrow (va_T.kept h4 hk) hB)⟩
theorem zT_same {A : Nat → Prop} {s U : State} {H : Heap} (h : zT A s H) (e : s.vm = U.vm) : zT A U H := by
  obtain ⟨t1, t2, h1, h2, h3, h4⟩ := h
  have hvm : s.vm.Alike U.vm := by rw [e]; exact Vm.Alike.refl U.vm
  exact ⟨t1, t2, va_Z.moved hvm h1, va_T.moved hvm h2, va_Z.moved hvm h3, va_T.moved hvm h4⟩
theorem zNm_in {A : Nat → Prop} {W : va_W} (hD : va_D A W) : ∀ q : Nat, zNm W q → A q := fun q ⟨k, e, hk⟩ => hD.2 k _ hk
def zF (D : va_G) (cI cZ cP cF : Nat) (U : State) : Prop :=
  zE D cI cZ cP cF U ∧ va_Nw (.methodLinkNest RX7 208 yX11_reckoned "TemplateForge") U ∧ va_Nw (.methodLinkNest RX9 160 yX11_reckoned "TemplateForge") U ∧ va_Nw (.fieldLinkNest RX0 35 RX11 "TAKES" "[I" "TemplateForge") U ∧ va_Nw (.fieldLinkNest RX6 81 RX11 "LAYS" "[I" "TemplateForge") U ∧ va_Nw (.castable "[I" "java/lang/Cloneable") U
theorem zF.k {D : va_G} {cI cZ cP cF : Nat} {U : State} (h : zF D cI cZ cP cF U) : va_K D vwCl [(cI, .int), (cZ, .boolean), (cP, .object RX8), (cF, .object RX4)] U := h.1.1
theorem zF.nX7_208 {D : va_G} {cI cZ cP cF : Nat} {U : State} (h : zF D cI cZ cP cF U) : va_Nw (.methodLinkNest RX7 208 yX11_reckoned "TemplateForge") U := h.2.1
theorem zF.nX9_160 {D : va_G} {cI cZ cP cF : Nat} {U : State} (h : zF D cI cZ cP cF U) : va_Nw (.methodLinkNest RX9 160 yX11_reckoned "TemplateForge") U := h.2.2.1
theorem zF.fX0_35 {D : va_G} {cI cZ cP cF : Nat} {U : State} (h : zF D cI cZ cP cF U) : va_Nw (.fieldLinkNest RX0 35 RX11 "TAKES" "[I" "TemplateForge") U := h.2.2.2.1
theorem zF.fX6_81 {D : va_G} {cI cZ cP cF : Nat} {U : State} (h : zF D cI cZ cP cF U) : va_Nw (.fieldLinkNest RX6 81 RX11 "LAYS" "[I" "TemplateForge") U := h.2.2.2.2.1
theorem zF.cas {D : va_G} {cI cZ cP cF : Nat} {U : State} (h : zF D cI cZ cP cF U) : va_Nw (.castable "[I" "java/lang/Cloneable") U := h.2.2.2.2.2
theorem zF.warm {D : va_G} {cI cZ cP cF : Nat} {s U : State} (h : zF D cI cZ cP cF s) (hW : s.WarmedH U.vm) : zF D cI cZ cP cF U :=
  ⟨h.1.warm hW, va_Nw.warmM hW h.nX7_208, va_Nw.warmM hW h.nX9_160, va_Nw.warmF hW h.fX0_35, va_Nw.warmF hW h.fX6_81, va_Nw.warmC hW h.cas⟩
theorem zF.same {D : va_G} {cI cZ cP cF : Nat} {s U : State} (h : zF D cI cZ cP cF s) (e : s.vm = U.vm) : zF D cI cZ cP cF U :=
  ⟨h.1.same e, va_Nw.same rfl e h.nX7_208, va_Nw.same rfl e h.nX9_160, va_Nw.same rfl e h.fX0_35, va_Nw.same rfl e h.fX6_81, va_Nw.same rfl e h.cas⟩
theorem zCR {D : va_G} {cI cZ cP cF : Nat} {av : List Value} {ws : va_W} : FrameBlind (va_Pc av (fun U => va_P D vwCl ws U.heap ∧ zF D cI cZ cP cF U)) := fun _ _ _ _ q => ⟨q.1, q.2.1, zF.same q.2.2 rfl⟩
theorem zCW {D : va_G} {cI cZ cP cF : Nat} {av : List Value} {ws : va_W} {sz : Nat} : FrameBlind (va_Pc av (fun U => U.heap.size = sz ∧ va_P D vwCl ws U.heap ∧ zF D cI cZ cP cF U ∧ va_D (fun _ => True) ws)) := fun _ _ _ _ q => ⟨q.1, q.2.1, q.2.2.1, zF.same q.2.2.2.1 rfl, q.2.2.2.2⟩
theorem zCRs {D : va_G} {cI cZ cP cF : Nat} {av : List Value} {ws : va_W} : FrameBlind (va_Pc av (fun U => va_P D vwCl ws U.heap ∧ zF D cI cZ cP cF U ∧ zT (fun _ => False) U U.heap)) := fun _ _ _ _ q => ⟨q.1, q.2.1, zF.same q.2.2.1 rfl, zT_same q.2.2.2 rfl⟩
theorem zCWs {D : va_G} {cI cZ cP cF : Nat} {av : List Value} {ws : va_W} {sz : Nat} : FrameBlind (va_Pc av (fun U => U.heap.size = sz ∧ va_P D vwCl ws U.heap ∧ zF D cI cZ cP cF U ∧ va_D (fun _ => True) ws ∧ zT (zNm ws) U U.heap)) := fun _ _ _ _ q => ⟨q.1, q.2.1, q.2.2.1, zF.same q.2.2.2.1 rfl, q.2.2.2.2.1, zT_same q.2.2.2.2.2 rfl⟩
/-! making that is told behind -/
def MetV (l : Launch) (y : MethodName) (ws : List Cond) (rm : Room) (Pc : Array Value → State → Prop) (Qc : Nat → Nat → Array Value → State → Outcome → State → Prop) (free : Addr → Prop) : Prop :=
  MetFree l y (headSpec ws rm) Pc (fun _ _ _ _ _ => True) (fun a st o t => ∃ k n : Nat, Qc k n a st o t ∧ ∃ L, FrameEnd st o t L k n ∧ ∀ q ∈ L, free q.base)
def MQV (below : List Frame) (Qc : Nat → Nat → Array Value → State → Outcome → State → Prop) (a : Array Value) (s : State) (free : Addr → Prop) : State → Prop := fun t => ∃ k n : Nat, MQ below (Qc k n) a s k n free t
theorem MetV.ofW {l : Launch} {y : MethodName} {ws ws' : List Cond} {rm : Room} {Pc : Array Value → State → Prop} {Qc : Nat → Nat → Array Value → State → Outcome → State → Prop} {free : Addr → Prop} {cc : ByteArray} {maxL : Nat} {ret : Option FieldType}
    (hy : plainName y.cls = true) (hw : ws = Cond.code y cc maxL ret :: ws')
    (body : ∀ p e s m args below meth c s₁, BodyLoose p l y (headSpec ws rm) cc maxL ret e s m args below meth c s₁ → c.maxLocals = maxL → Pc args s →
      W p l e (headSpec ws rm).room s m args below meth c s.heap [] 0 0 (MQV below Qc args s free) (entryFrame m args maxL)) : MetV l y ws rm Pc Qc free := by
  refine MetFree.of_bodyS (code := cc) (maxLocals := maxL) (ret := ret) hy ?_ ?_
  · intro args s m h hn
    obtain ⟨meth, c, h1, h2, h3, h4, h5, h6, -, -⟩ := Cond.code_spec hn (atoms_spec (ws := ws) h _ (by rw [hw]; exact List.mem_cons_self))
    exact ⟨meth, c, h1, h2, h3, h4, h5, h6⟩
  · intro p e s m args below meth c s₁ B hml hP _
    have hh0 : s₁.heap = s.heap := by rw [B.state]; rfl
    obtain ⟨t, a1, k, n, o, b1, b2, b3⟩ := body p e s m args below meth c s₁ B hml hP s₁ hh0 (Stand.of_body B)
    exact ⟨t, o, a1, b1, b2, ⟨k, n, b3.1, b3.2⟩⟩
theorem zW_mono {p : Program} {l : Launch} {e : Env} {R : Room} {s : State} {m : MethodId} {args : Array Value} {below : List Frame} {meth : Method} {c : Code} {H : Heap} {locs : List Loc} {cells slots : Nat} {Q Q' : State → Prop} {g : JFrame} (k : W p l e R s m args below meth c H locs cells slots Q g) (h : ∀ t, Q t → Q' t) : W p l e R s m args below meth c H locs cells slots Q' g := fun T hT X => by
  obtain ⟨t, a, b⟩ := k T hT X
  exact ⟨t, a, h t b⟩
theorem back_ofV {l : Launch} {R : Room} {p : Program} {e : Env} {below : List Frame} {s : State} {sargs : Array Value} {y : MethodName} {len W : Nat} {ws : List Cond} {rm : Room} {Pc : Array Value → State → Prop} {Qc : Nat → Nat → Array Value → State → Outcome → State → Prop} {free : Addr → Prop} {bytes : ByteArray} {maxL : Nat} {ret : Option FieldType}
    (hM : MetV l y ws rm Pc Qc free) (hblind : FrameBlind Pc)
    (hframes : rm.frames + 1 ≤ R.frames) (hlocals : W + (maxL + 11) + rm.locals ≤ R.locals)
    (hws : ∀ w ∈ ws, ∀ a' U, s.WarmedH U.vm → w.before a' U = true) (hcode : Cond.code y bytes maxL ret ∈ ws) (hinit : ∀ a' U, s.WarmedH U.vm → (Cond.initialized y.cls).before a' U = true) :
    Back l R p e below s sargs y len W (PreOf R rm.cells rm.slots Pc) (fun A a v B => ∃ k n : Nat, PostOf (Qc k n) k n free A a v B) := by
  refine Back.of_free (S := headSpec ws rm) (P := Pc) (K := fun _ _ _ _ _ => True) (Q := fun a st o t => ∃ k n : Nat, Qc k n a st o t ∧ ∃ L, FrameEnd st o t L k n ∧ ∀ q ∈ L, free q.base) (bytes := bytes) (maxL := maxL) (ret := ret)
    (E := fun a st o t L k n => Qc k n a st o t ∧ ∀ q ∈ L, free q.base) hM hframes hlocals ?_ ?_ (fun _ _ _ _ _ _ _ _ _ => trivial) ?_ ?_
  · intro m meth c A a X hp
    exact ⟨atoms_intro fun w hw => hws w hw _ _ X.warmed, hws _ hcode _ _ X.warmed, hinit _ _ X.warmed, hp.1, hp.2.1⟩
  · intro m meth c A a g mk X hp
    exact hblind _ _ _ _ hp.2.2
  · intro a st o t ⟨k, n, hq, L, hF, hL⟩
    exact ⟨L, k, n, hF, hq, hL⟩
  · intro m meth c A a g mk v t L k n X hp hq hF ⟨e1, hL⟩
    exact ⟨k, n, g, mk, t, L, rfl, rfl, e1, rfl, hL, rfl, rfl⟩
def zRunV (p : Program) (l : Launch) (e : Env) (R : Room) (s : State) (m : MethodId) (args : Array Value) (below : List Frame) (meth : Method) (c : Code) (H : Heap) (locs : List Loc) (cells slots : Nat) (g : JFrame) (rest : List Value) (Qa : Nat → Nat → State → Outcome → State → Prop) (free : Addr → Prop) : Prop :=
  ∀ T : State, T.heap = H → Stand p l e R s m args below meth c T locs cells slots → ∃ (k n : Nat) (v : Option Value) (st₀ t T' : State) (L : List Loc), st₀.heap = H ∧ Stand p l e R s m args below meth c T' (locs ++ L) (cells + k) (slots + n) ∧ (∀ q ∈ L, free q.base) ∧ T'.heap = t.heap ∧ T'.vm = t.vm ∧ Qa k n st₀ (.returned v) t ∧
    Goes p e below T g T' { g with pc := g.pc + 3, stack := v.toList ++ rest }
section ZRUNV
variable {p : Program} {l : Launch} {e : Env} {R : Room} {s : State} {m : MethodId} {args : Array Value} {below : List Frame} {meth : Method} {c : Code} {H : Heap} {locs : List Loc} {cells slots : Nat} {Q : State → Prop}
theorem z_runV {y : MethodName} {bytes cc : ByteArray} {maxL nL mc ms n index : Nat} {ret : Option FieldType} {ws : List Cond} {rm : Room} {Pc : Array Value → State → Prop} {Qc : Nat → Nat → Array Value → State → Outcome → State → Prop} {free : Addr → Prop} {Ts : List Cond} {own C : String} {b : Addr} {As rest : List Value} {g : JFrame}
    (S : CallFix p m c cc nL s args Ts own) (hM : MetV l y ws rm Pc Qc free) (cw : CallW R s args own C index y bytes maxL ret ws rm mc ms n) (hp : PreV s H C b Pc As)
    (hg : g.method = m) (hn : As.length = n) (hsize : g.locals.size = nL) (hstack : g.stack = As.reverse ++ .ref b :: rest) (hW : 2 * g.monitorRoom + (rest.map fun v => v.category).sum ≤ 8) (hdg : decode cc g.pc = .ok (.invokevirtual index, 3)) (hf : cells + mc ≤ R.cells ∧ slots + ms ≤ R.slots) :
    zRunV p l e R s m args below meth c H locs cells slots g rest (fun k n => Qc k n (Value.ref b :: As).toArray) free := by
  obtain ⟨⟨hrc, hrs, hfr, hlo, hws, hcw, hcode, hini, hy, hlen, hl⟩, hin, hse⟩ := cw
  have hK := back_ofV (p := p) (e := e) (below := below) (sargs := args) (len := 3) (W := 8) (R := R) (s := s) (bytes := bytes) (maxL := maxL) (ret := ret) hM hp.1 hfr hlo hws hcw (fun a' U hW => word_at hW (Or.inl (by first | rfl | simp [Cond.onTables, Cond.keeps, Cond.steady])) hini)
  obtain ⟨hx, hb, hml, ho, -⟩ := S
  obtain ⟨-, ⟨cellB, hcB, hoB, hclB⟩, hPc⟩ := hp
  intro T hT X
  obtain ⟨v, vm₁, ⟨U', l2, c2, s2⟩, hW₁, X', ⟨k, n', g', mk, t, L, e1, e2, hq, h1, hL, h2, h3⟩, st⟩ := callV X hx (C := C) (bytes := bytes) (maxL := maxL) (ret := ret) ho hl hin hse hcode hy hK (by rw [hT]; exact hcB) hoB hclB hg (hsize.trans hml.symm) (argsL := As) (rest := rest) (fun sig h => hn.trans (hlen sig h)) hstack hW (by rw [hb]; exact hdg)
    (fun vm₁ hW₁ => ⟨by rw [hrc]; exact hf.1, by rw [hrs]; exact hf.2, hPc (T.setVm vm₁) hT hW₁⟩)
  dsimp only [Pt.U, Pt.locs, Pt.cells, Pt.slots] at X' e1 e2 h1 h2 h3 st
  subst h1; subst h2; subst h3
  exact ⟨k, n', v, (T.setVm vm₁).calling g' mk (Value.ref b :: As).toArray, t, U', L, hT, X', hL, e1, e2, hq, st⟩
end ZRUNV
def xQi (Post : CST → Int32 → Prop) (B : (Nat → Nat → Nat) → CST → Nat → Nat → State → Prop) (A : Nat → Prop) (k n : Nat) : Array Value → State → Outcome → State → Prop := fun _ st oc t => (∃ (r : Int32) (q' : Nat → Nat → Nat) (S' : CST), oc = .returned (some (.int r)) ∧ Post S' r ∧ B q' S' k n t) ∧ va_F A st t
def xQv (Post : CST → Prop) (B : (Nat → Nat → Nat) → CST → Nat → Nat → State → Prop) (A : Nat → Prop) (k n : Nat) : Array Value → State → Outcome → State → Prop := fun _ st oc t => (∃ (q' : Nat → Nat → Nat) (S' : CST), oc = .returned none ∧ Post S' ∧ B q' S' k n t) ∧ va_F A st t
def xQc (Post : CST → Nat → Prop) (B : (Nat → Nat → Nat) → CST → Nat → Nat → State → Prop) (A : Nat → Prop) (k n : Nat) : Array Value → State → Outcome → State → Prop := fun _ st oc t => (∃ (i : Nat) (q' : Nat → Nat → Nat) (S' : CST), oc = .returned (some (.ref (q' 32 i))) ∧ Post S' i ∧ B q' S' k n t) ∧ va_F A st t
section XCALL
variable {p : Program} {l : Launch} {e : Env} {R : Room} {s : State} {m : MethodId} {args : Array Value} {below : List Frame} {meth : Method} {c : Code} {H : Heap} {locs : List Loc} {cells slots : Nat} {Q : State → Prop}
variable {pc : Nat} {ls : Array Slot} {rest st0 : List Value} {a : Array Value} {A0 A1 : Nat → Prop} {H0 : Heap} {free : Addr → Prop} {B : (Nat → Nat → Nat) → CST → Nat → Nat → State → Prop}
theorem xc_i {post : CST → Int32 → Prop} (hr : zRunV p l e R s m args below meth c H locs cells slots (F0 m pc ls st0) rest (fun k n => xQi post B A1 k n a) free) (hS : va_S A0 H0 H locs) (hA : ∀ q, q < H.size → A1 q → A0 q) (hf : ∀ q, free q → A0 q)
    (kk : ∀ (r : Int32) (q' : Nat → Nat → Nat) (S' : CST) (k n : Nat) (t : State) (H1 : Heap) (locs1 : List Loc), t.heap = H1 → s.vm.Alike t.vm → post S' r → B q' S' k n t → H.size ≤ H1.size → (∀ q : Nat, q < H.size → ¬ A1 q → H1[q]? = H[q]?) → va_S A0 H0 H1 locs1 → W p l e R s m args below meth c H1 locs1 (cells + k) (slots + n) Q (F0 m (pc + 3) ls (.int r :: rest))) : W p l e R s m args below meth c H locs cells slots Q (F0 m pc ls st0) := by
  intro T hT X
  obtain ⟨k, n, v, st₀, t, T', L, h0, X', hL, e1, e2, ⟨⟨r, q', S', hv, hp, hb⟩, hz, hk⟩, st⟩ := hr T hT X
  cases hv
  rw [h0] at hz hk
  obtain ⟨t2, a1, b1⟩ := kk r q' S' k n t T'.heap (locs ++ L) e1.symm (by rw [← e2]; exact X'.warmed.alike) hp hb (by rw [e1]; exact hz) (fun q h1 h2 => by rw [e1]; exact hk q h1 h2)
    ⟨Nat.le_trans hS.1 (by rw [e1]; exact hz), fun q h1 h2 => by rw [e1, hk q (Nat.lt_of_lt_of_le h1 hS.1) (fun z => h2 (hA q (Nat.lt_of_lt_of_le h1 hS.1) z))]; exact hS.2.1 q h1 h2, fun q hq => by
      rcases List.mem_append.mp hq with h | h
      · exact hS.2.2 q h
      · exact hf _ (hL q h)⟩ T' rfl X'
  exact ⟨t2, st t2 a1, b1⟩
theorem xc_v {post : CST → Prop} (hr : zRunV p l e R s m args below meth c H locs cells slots (F0 m pc ls st0) rest (fun k n => xQv post B A1 k n a) free) (hS : va_S A0 H0 H locs) (hA : ∀ q, q < H.size → A1 q → A0 q) (hf : ∀ q, free q → A0 q)
    (kk : ∀ (q' : Nat → Nat → Nat) (S' : CST) (k n : Nat) (t : State) (H1 : Heap) (locs1 : List Loc), t.heap = H1 → s.vm.Alike t.vm → post S' → B q' S' k n t → H.size ≤ H1.size → (∀ q : Nat, q < H.size → ¬ A1 q → H1[q]? = H[q]?) → va_S A0 H0 H1 locs1 → W p l e R s m args below meth c H1 locs1 (cells + k) (slots + n) Q (F0 m (pc + 3) ls rest)) : W p l e R s m args below meth c H locs cells slots Q (F0 m pc ls st0) := by
  intro T hT X
  obtain ⟨k, n, v, st₀, t, T', L, h0, X', hL, e1, e2, ⟨⟨q', S', hv, hp, hb⟩, hz, hk⟩, st⟩ := hr T hT X
  cases hv
  rw [h0] at hz hk
  obtain ⟨t2, a1, b1⟩ := kk q' S' k n t T'.heap (locs ++ L) e1.symm (by rw [← e2]; exact X'.warmed.alike) hp hb (by rw [e1]; exact hz) (fun q h1 h2 => by rw [e1]; exact hk q h1 h2)
    ⟨Nat.le_trans hS.1 (by rw [e1]; exact hz), fun q h1 h2 => by rw [e1, hk q (Nat.lt_of_lt_of_le h1 hS.1) (fun z => h2 (hA q (Nat.lt_of_lt_of_le h1 hS.1) z))]; exact hS.2.1 q h1 h2, fun q hq => by
      rcases List.mem_append.mp hq with h | h
      · exact hS.2.2 q h
      · exact hf _ (hL q h)⟩ T' rfl X'
  exact ⟨t2, st t2 a1, b1⟩
theorem xc_c {post : CST → Nat → Prop} (hr : zRunV p l e R s m args below meth c H locs cells slots (F0 m pc ls st0) rest (fun k n => xQc post B A1 k n a) free) (hS : va_S A0 H0 H locs) (hA : ∀ q, q < H.size → A1 q → A0 q) (hf : ∀ q, free q → A0 q)
    (kk : ∀ (i : Nat) (q' : Nat → Nat → Nat) (S' : CST) (k n : Nat) (t : State) (H1 : Heap) (locs1 : List Loc), t.heap = H1 → s.vm.Alike t.vm → post S' i → B q' S' k n t → H.size ≤ H1.size → (∀ q : Nat, q < H.size → ¬ A1 q → H1[q]? = H[q]?) → va_S A0 H0 H1 locs1 → W p l e R s m args below meth c H1 locs1 (cells + k) (slots + n) Q (F0 m (pc + 3) ls (.ref (q' 32 i) :: rest))) : W p l e R s m args below meth c H locs cells slots Q (F0 m pc ls st0) := by
  intro T hT X
  obtain ⟨k, n, v, st₀, t, T', L, h0, X', hL, e1, e2, ⟨⟨i, q', S', hv, hp, hb⟩, hz, hk⟩, st⟩ := hr T hT X
  cases hv
  rw [h0] at hz hk
  obtain ⟨t2, a1, b1⟩ := kk i q' S' k n t T'.heap (locs ++ L) e1.symm (by rw [← e2]; exact X'.warmed.alike) hp hb (by rw [e1]; exact hz) (fun q h1 h2 => by rw [e1]; exact hk q h1 h2)
    ⟨Nat.le_trans hS.1 (by rw [e1]; exact hz), fun q h1 h2 => by rw [e1, hk q (Nat.lt_of_lt_of_le h1 hS.1) (fun z => h2 (hA q (Nat.lt_of_lt_of_le h1 hS.1) z))]; exact hS.2.1 q h1 h2, fun q hq => by
      rcases List.mem_append.mp hq with h | h
      · exact hS.2.2 q h
      · exact hf _ (hL q h)⟩ T' rfl X'
  exact ⟨t2, st t2 a1, b1⟩
end XCALL
/-! what has been made: METHODS (8 cells, 232 slots each) and codes (3 cells, 7619 slots at the most each) -/
def cCap (S : CST) : Prop := cnP S ≤ 8 ∧ cnC S ≤ 104
def cOk (S S' : CST) (k n : Nat) : Prop := cnP S ≤ cnP S' ∧ cnC S ≤ cnC S' ∧ cnP S' ≤ 8 ∧ cnC S' ≤ 104 ∧ k ≤ 8 * (cnP S' - cnP S) + 3 * (cnC S' - cnC S) ∧ n ≤ 232 * (cnP S' - cnP S) + 7619 * (cnC S' - cnC S)
def cA (q : Nat → Nat → Nat) (S : CST) (q' : Nat → Nat → Nat) (S' : CST) (k n : Nat) : Prop := (∀ kd i : Nat, cin S kd i → q' kd i = q kd i) ∧ cOk S S' k n
def rmc (S : CST) : Nat := 8 * (8 - cnP S) + 3 * (104 - cnC S)
def rms (S : CST) : Nat := 232 * (8 - cnP S) + 7619 * (104 - cnC S)
theorem cin_le {S S' : CST} {kd i : Nat} (hp : cnP S ≤ cnP S') (hc : cnC S ≤ cnC S') (h : cin S kd i) : cin S' kd i := by unfold cin at h ⊢; omega
theorem cA_rf {q : Nat → Nat → Nat} {S : CST} (h : cCap S) : cA q S q S 0 0 := ⟨fun _ _ _ => rfl, Nat.le_refl _, Nat.le_refl _, h.1, h.2, Nat.zero_le _, Nat.zero_le _⟩
theorem cA_step {q q1 q2 : Nat → Nat → Nat} {S S1 S2 : CST} {a b k n : Nat} (h : cA q S q1 S1 a b) (hq : ∀ kd i : Nat, cin S1 kd i → q2 kd i = q1 kd i) (hk : cOk S1 S2 k n) : cA q S q2 S2 (a + k) (b + n) := by
  obtain ⟨h1, h2, h3, h4, h5, h6, h7⟩ := h
  obtain ⟨k2, k3, k4, k5, k6, k7⟩ := hk
  exact ⟨fun kd i hi => by rw [hq kd i (cin_le h2 h3 hi), h1 kd i hi], by omega, by omega, k4, k5, by omega, by omega⟩
theorem cA_room {q q1 : Nat → Nat → Nat} {S S1 : CST} {a b : Nat} (h : cA q S q1 S1 a b) : a + rmc S1 ≤ rmc S ∧ b + rms S1 ≤ rms S := by
  obtain ⟨h1, h2, h3, h4, h5, h6, h7⟩ := h
  unfold rmc rms
  omega
theorem cA_le {q q1 : Nat → Nat → Nat} {S S1 : CST} {a b : Nat} (h : cA q S q1 S1 a b) : a + 0 ≤ rmc S ∧ b + 0 ≤ rms S := by
  have := cA_room h
  omega
theorem cA_keep {q q1 : Nat → Nat → Nat} {S S1 S2 : CST} {a b : Nat} (h : cA q S q1 S1 a b) (e : S2.2 = S1.2) : cA q S q1 S2 a b := by
  obtain ⟨h1, h2⟩ := h
  refine ⟨h1, ?_⟩
  have e1 : cnP S2 = cnP S1 := congrArg Prod.fst e
  have e2 : cnC S2 = cnC S1 := congrArg Prod.snd e
  unfold cOk at h2 ⊢
  rw [e1, e2]
  exact h2
theorem cA_cap {q q1 : Nat → Nat → Nat} {S S1 : CST} {a b : Nat} (h : cA q S q1 S1 a b) : cCap S1 := ⟨h.2.2.2.1, h.2.2.2.2.1⟩
theorem cn_nI {q : Nat → Nat → Nat} {k i : Nat} (h : i < 2147483648) : cn q k (nI i) = .ref (q k i) := by
  rw [cn_pos (Int32.not_lt.mpr (nI_pos' (by omega))), nI_clamp (by omega)]
theorem ofNat_clamp {x : Int32} (h : ¬ x < 0) : Int32.ofNat x.toNatClampNeg = x := by
  rw [Int32.lt_iff_toInt_lt] at h
  have h0 : (0 : Int32).toInt = 0 := by decide
  apply Int32.toInt.inj
  have h3 : x.toNatClampNeg = x.toInt.toNat := rfl
  have h4 := Int32.toInt_lt x
  rw [h3, Int32.toInt_ofNat_of_lt (by omega)]
  omega
section ZRET
variable {p : Program} {l : Launch} {e : Env} {R : Room} {s : State} {m : MethodId} {args : Array Value} {below : List Frame} {meth : Method} {c : Code} {H : Heap} {locs : List Loc} {cells slots : Nat} {cc : ByteArray} {Qc : Nat → Nat → Array Value → State → Outcome → State → Prop} {free : Addr → Prop} {pc : Nat} {ls : Array Slot}
theorem zV_i {v : Int32} (hexec : p.tables.exec = Jvm.exec) (hb : c.code = cc) (hr : meth.sig.returnType = some .int) (hq : ∀ t : State, t.heap = H → s.WarmedH t.vm → Qc cells slots args s (.returned (some (.int v))) t) (hf : ∀ q ∈ locs, free q.base) (hdg : decode cc pc = .ok (.ireturn, 1)) (hlocks : meth.locks = false) :
    W p l e R s m args below meth c H locs cells slots (MQV below Qc args s free) (F0 m pc ls [.int v]) := zW_mono (W.iret (Qc := Qc cells slots) hexec hb hr hq hf hdg hlocks) (fun t ht => ⟨_, _, ht⟩)
theorem zV_v (hexec : p.tables.exec = Jvm.exec) (hb : c.code = cc) (hr : meth.sig.returnType = none) (hq : ∀ t : State, t.heap = H → s.WarmedH t.vm → Qc cells slots args s (.returned none) t) (hf : ∀ q ∈ locs, free q.base) (hdg : decode cc pc = .ok (.return_, 1)) (hlocks : meth.locks = false) :
    W p l e R s m args below meth c H locs cells slots (MQV below Qc args s free) (F0 m pc ls []) := zW_mono (W.vret (Qc := Qc cells slots) hexec hb hr hq hf hdg hlocks) (fun t ht => ⟨_, _, ht⟩)
theorem zV_c {a : Nat} {n : String} (hexec : p.tables.exec = Jvm.exec) (hb : c.code = cc) (hr : meth.sig.returnType = some (.object n)) (hq : ∀ t : State, t.heap = H → s.WarmedH t.vm → Qc cells slots args s (.returned (some (.ref a))) t) (hf : ∀ q ∈ locs, free q.base) (hdg : decode cc pc = .ok (.areturn, 1)) (hlocks : meth.locks = false) :
    W p l e R s m args below meth c H locs cells slots (MQV below Qc args s free) (F0 m pc ls [.ref a]) := zW_mono (W.aret (Qc := Qc cells slots) hexec hb hr (Or.inl ⟨_, rfl⟩) (Or.inr ⟨_, rfl⟩) hq hf hdg hlocks) (fun t ht => ⟨_, _, ht⟩)
end ZRET
