/-! THE CLASS's world: objects by kind and index -/
/-- what the objects hold (slot, index, place), how many METHODS and codes there are; where they lie: q (kind, index) -/
abbrev CST : Type := (Nat → Nat → Nat → Int32) × Nat × Nat
abbrev cv (S : CST) : Nat → Nat → Nat → Int32 := S.1
abbrev cnP (S : CST) : Nat := S.2.1
abbrev cnC (S : CST) : Nat := S.2.2
/-- an id that may be null -/
def cno (q : Nat → Nat → Nat) (k : Nat) (x : Int32) : Option Nat := if x < 0 then none else some (q k x.toNatClampNeg)
def cn (q : Nat → Nat → Nat) (k : Nat) (x : Int32) : Value := va_rf (cno q k x)
def cs (S : CST) (k i : Nat) (g : Nat → Int32) : CST := (fun k' i' => if k' = k ∧ i' = i then g else S.1 k' i', S.2)
theorem cs_s (S : CST) (k i : Nat) (g : Nat → Int32) : cv (cs S k i g) k i = g := if_pos ⟨rfl, rfl⟩
theorem cs_n (S : CST) {k i k' i' : Nat} (g : Nat → Int32) (h : ¬ (k' = k ∧ i' = i)) : cv (cs S k i g) k' i' = cv S k' i' := if_neg h
def cc0 (cI cZ cP cF : Nat) (q : Nat → Nat → Nat) (S : CST) (i : Nat) : va_E := .inr (11, [.ref (q 1 0), .ref (q 3 0), .ref (q 10 0), .ref (q 12 0)])
def cc1 (cI cZ cP cF : Nat) (q : Nat → Nat → Nat) (S : CST) (i : Nat) : va_E := .inr (0, [.ref (q 2 0), .int (cv S 11 i 0)])
def cc2 (cI cZ cP cF : Nat) (q : Nat → Nat → Nat) (S : CST) (i : Nat) : va_E := .inl (cP, 8, .inr (.inr (.inr (.inr (fun j => cno q 24 (cv S 20 i j))))))
def cc3 (cI cZ cP cF : Nat) (q : Nat → Nat → Nat) (S : CST) (i : Nat) : va_E := .inr (2, [.ref (q 4 0), .ref (q 5 0), .ref (q 6 0)])
def cc4 (cI cZ cP cF : Nat) (q : Nat → Nat → Nat) (S : CST) (i : Nat) : va_E := .inl (cI, 8, .inl (cv S 40 i))
def cc5 (cI cZ cP cF : Nat) (q : Nat → Nat → Nat) (S : CST) (i : Nat) : va_E := .inl (cI, 4, .inl (cv S 50 i))
def cc6 (cI cZ cP cF : Nat) (q : Nat → Nat → Nat) (S : CST) (i : Nat) : va_E := .inl (cI, 80, .inl (cv S 60 i))
def cc7 (cI cZ cP cF : Nat) (q : Nat → Nat → Nat) (S : CST) (i : Nat) : va_E := .inr (3, [.ref (q 8 0), .ref (q 9 0), .int (cv S 72 i 0)])
def cc8 (cI cZ cP cF : Nat) (q : Nat → Nat → Nat) (S : CST) (i : Nat) : va_E := .inl (cI, 7555, .inl (cv S 80 i))
def cc9 (cI cZ cP cF : Nat) (q : Nat → Nat → Nat) (S : CST) (i : Nat) : va_E := .inl (cI, 60, .inl (cv S 90 i))
def cc10 (cI cZ cP cF : Nat) (q : Nat → Nat → Nat) (S : CST) (i : Nat) : va_E := .inr (6, [.ref (q 1 0), .ref (q 7 0), .ref (q 11 0), .int (cv S 103 i 0)])
def cc11 (cI cZ cP cF : Nat) (q : Nat → Nat → Nat) (S : CST) (i : Nat) : va_E := .inl (cZ, 60, .inl (cv S 110 i))
def cc12 (cI cZ cP cF : Nat) (q : Nat → Nat → Nat) (S : CST) (i : Nat) : va_E := .inr (7, [.ref (q 1 0), .ref (q 3 0), .ref (q 15 0), .ref (q 20 0), .ref (q 13 0), .ref (q 14 0), .int (cv S 126 i 0), .int (cv S 127 i 0), .int (cv S 128 i 0), .int (cv S 129 i 0)])
def cc13 (cI cZ cP cF : Nat) (q : Nat → Nat → Nat) (S : CST) (i : Nat) : va_E := .inl (cF, 16, .inr (.inr (.inr (.inr (fun j => some (q 22 j))))))
def cc14 (cI cZ cP cF : Nat) (q : Nat → Nat → Nat) (S : CST) (i : Nat) : va_E := .inl (cI, 3, .inl (cv S 140 i))
def cc15 (cI cZ cP cF : Nat) (q : Nat → Nat → Nat) (S : CST) (i : Nat) : va_E := .inr (9, [.ref (q 7 0), .ref (q 16 0), .ref (q 17 0), .ref (q 18 0), .ref (q 19 0)])
def cc16 (cI cZ cP cF : Nat) (q : Nat → Nat → Nat) (S : CST) (i : Nat) : va_E := .inl (cZ, 15, .inl (cv S 160 i))
def cc17 (cI cZ cP cF : Nat) (q : Nat → Nat → Nat) (S : CST) (i : Nat) : va_E := .inl (cI, 15, .inl (cv S 170 i))
def cc18 (cI cZ cP cF : Nat) (q : Nat → Nat → Nat) (S : CST) (i : Nat) : va_E := .inl (cZ, 60, .inl (cv S 180 i))
def cc19 (cI cZ cP cF : Nat) (q : Nat → Nat → Nat) (S : CST) (i : Nat) : va_E := .inl (cZ, 11, .inl (cv S 190 i))
def cc20 (cI cZ cP cF : Nat) (q : Nat → Nat → Nat) (S : CST) (i : Nat) : va_E := .inr (10, [.int (cv S 200 i 0), .int (cv S 201 i 0), .int (cv S 202 i 0), .int (cv S 203 i 0), .int (cv S 204 i 0), .int (cv S 205 i 0), .ref (q 21 0)])
def cc21 (cI cZ cP cF : Nat) (q : Nat → Nat → Nat) (S : CST) (i : Nat) : va_E := .inl (cI, 4, .inl (cv S 210 i))
def cc22 (cI cZ cP cF : Nat) (q : Nat → Nat → Nat) (S : CST) (i : Nat) : va_E := .inr (4, [cn q 24 (cv S 220 i 0), cn q 32 (cv S 221 i 0), .int (cv S 222 i 0), .int (cv S 223 i 0), .ref (q 23 i)])
def cc23 (cI cZ cP cF : Nat) (q : Nat → Nat → Nat) (S : CST) (i : Nat) : va_E := .inl (cI, 15, .inl (cv S 230 i))
def cc24 (cI cZ cP cF : Nat) (q : Nat → Nat → Nat) (S : CST) (i : Nat) : va_E := .inr (8, [.int (cv S 240 i 0), .int (cv S 241 i 0), .int (cv S 242 i 0), .ref (q 28 i), .ref (q 25 i), .ref (q 26 i), .ref (q 27 i), .int (cv S 247 i 0), .int (cv S 248 i 0), cn q 32 (cv S 249 i 0)])
def cc25 (cI cZ cP cF : Nat) (q : Nat → Nat → Nat) (S : CST) (i : Nat) : va_E := .inl (cI, 60, .inl (cv S 250 i))
def cc26 (cI cZ cP cF : Nat) (q : Nat → Nat → Nat) (S : CST) (i : Nat) : va_E := .inl (cI, 60, .inl (cv S 260 i))
def cc27 (cI cZ cP cF : Nat) (q : Nat → Nat → Nat) (S : CST) (i : Nat) : va_E := .inl (cI, 60, .inl (cv S 270 i))
def cc28 (cI cZ cP cF : Nat) (q : Nat → Nat → Nat) (S : CST) (i : Nat) : va_E := .inr (5, [.int (cv S 280 i 0), cn q 32 (cv S 281 i 0), .int (cv S 282 i 0), .int (cv S 283 i 0), .int (cv S 284 i 0), .int (cv S 285 i 0), .ref (q 29 i), .ref (q 30 i), .ref (q 31 i)])
def cc29 (cI cZ cP cF : Nat) (q : Nat → Nat → Nat) (S : CST) (i : Nat) : va_E := .inl (cI, 11, .inl (cv S 290 i))
def cc30 (cI cZ cP cF : Nat) (q : Nat → Nat → Nat) (S : CST) (i : Nat) : va_E := .inl (cZ, 11, .inl (cv S 300 i))
def cc31 (cI cZ cP cF : Nat) (q : Nat → Nat → Nat) (S : CST) (i : Nat) : va_E := .inl (cZ, 11, .inl (cv S 310 i))
def cc32 (cI cZ cP cF : Nat) (q : Nat → Nat → Nat) (S : CST) (i : Nat) : va_E := .inr (1, [.int (cv S 320 i 0), .int (cv S 321 i 0), .ref (q 33 i), .ref (q 34 i)])
def cc33 (cI cZ cP cF : Nat) (q : Nat → Nat → Nat) (S : CST) (i : Nat) : va_E := .inl (cI, ((cv S 339 i 0).toNatClampNeg), .inl (cv S 330 i))
def cc34 (cI cZ cP cF : Nat) (q : Nat → Nat → Nat) (S : CST) (i : Nat) : va_E := .inl (cI, ((cv S 349 i 0).toNatClampNeg), .inl (cv S 340 i))
def cCell (cI cZ cP cF : Nat) (q : Nat → Nat → Nat) (S : CST) (i : Nat) : Nat → va_E
  | 0 => cc0 cI cZ cP cF q S i
  | 1 => cc1 cI cZ cP cF q S i
  | 2 => cc2 cI cZ cP cF q S i
  | 3 => cc3 cI cZ cP cF q S i
  | 4 => cc4 cI cZ cP cF q S i
  | 5 => cc5 cI cZ cP cF q S i
  | 6 => cc6 cI cZ cP cF q S i
  | 7 => cc7 cI cZ cP cF q S i
  | 8 => cc8 cI cZ cP cF q S i
  | 9 => cc9 cI cZ cP cF q S i
  | 10 => cc10 cI cZ cP cF q S i
  | 11 => cc11 cI cZ cP cF q S i
  | 12 => cc12 cI cZ cP cF q S i
  | 13 => cc13 cI cZ cP cF q S i
  | 14 => cc14 cI cZ cP cF q S i
  | 15 => cc15 cI cZ cP cF q S i
  | 16 => cc16 cI cZ cP cF q S i
  | 17 => cc17 cI cZ cP cF q S i
  | 18 => cc18 cI cZ cP cF q S i
  | 19 => cc19 cI cZ cP cF q S i
  | 20 => cc20 cI cZ cP cF q S i
  | 21 => cc21 cI cZ cP cF q S i
  | 22 => cc22 cI cZ cP cF q S i
  | 23 => cc23 cI cZ cP cF q S i
  | 24 => cc24 cI cZ cP cF q S i
  | 25 => cc25 cI cZ cP cF q S i
  | 26 => cc26 cI cZ cP cF q S i
  | 27 => cc27 cI cZ cP cF q S i
  | 28 => cc28 cI cZ cP cF q S i
  | 29 => cc29 cI cZ cP cF q S i
  | 30 => cc30 cI cZ cP cF q S i
  | 31 => cc31 cI cZ cP cF q S i
  | 32 => cc32 cI cZ cP cF q S i
  | 33 => cc33 cI cZ cP cF q S i
  | 34 => cc34 cI cZ cP cF q S i
  | _ => .inr (0, [])
/-- there is an object of kind k and index i -/
def cin (S : CST) (k i : Nat) : Prop := (k < 22 ∧ i = 0) ∨ (22 ≤ k ∧ k < 24 ∧ i < 16) ∨ (24 ≤ k ∧ k < 32 ∧ i < cnP S) ∨ (32 ≤ k ∧ k < 35 ∧ i < cnC S)
def cNames (P C : Nat) : List (Nat × Nat) := (List.range 22).map (fun k => (k, 0)) ++ ((List.range 16).flatMap (fun i => [(22, i), (23, i)]) ++ ((List.range P).flatMap (fun i => (List.range 8).map (fun k => (24 + k, i))) ++ (List.range C).flatMap (fun i => (List.range 3).map (fun k => (32 + k, i)))))
theorem cNames_in {S : CST} {k i : Nat} (h : cin S k i) : (k, i) ∈ cNames (cnP S) (cnC S) := by
  unfold cNames
  simp only [List.mem_append, List.mem_map, List.mem_flatMap, List.mem_range, List.mem_cons, Prod.mk.injEq, List.not_mem_nil, or_false]
  rcases h with ⟨a, b⟩ | ⟨a, b, c⟩ | ⟨a, b, c⟩ | ⟨a, b, c⟩
  · exact Or.inl ⟨k, a, rfl, b.symm⟩
  · exact Or.inr (Or.inl ⟨i, c, by omega⟩)
  · exact Or.inr (Or.inr (Or.inl ⟨i, c, k - 24, by omega, by omega, rfl⟩))
  · exact Or.inr (Or.inr (Or.inr ⟨i, c, k - 32, by omega, by omega, rfl⟩))
theorem cNames_of {S : CST} {k i : Nat} (h : (k, i) ∈ cNames (cnP S) (cnC S)) : cin S k i := by
  unfold cNames at h
  simp only [List.mem_append, List.mem_map, List.mem_flatMap, List.mem_range, List.mem_cons, Prod.mk.injEq, List.not_mem_nil, or_false] at h
  unfold cin
  rcases h with ⟨x, a, b, c⟩ | ⟨x, a, b⟩ | ⟨x, a, y, b, c, d⟩ | ⟨x, a, y, b, c, d⟩
  · omega
  · omega
  · omega
  · omega
/-- a world out of names, addresses and cells -/
def wN (ns : List (Nat × Nat)) (q : Nat → Nat → Nat) (F : Nat → Nat → va_E) : va_W := ns.map (fun n => (q n.1 n.2, F n.2 n.1))
theorem wN_at {ns : List (Nat × Nat)} {q : Nat → Nat → Nat} {F : Nat → Nat → va_E} {j : Nat} {b : Nat × Nat} (hb : ns[j]? = some b) : (wN ns q F)[j]? = some (q b.1 b.2, F b.2 b.1) := by
  unfold wN
  rw [List.getElem?_map, hb]
  rfl
theorem wN_get {ns : List (Nat × Nat)} {q : Nat → Nat → Nat} {F : Nat → Nat → va_E} {k i : Nat} (h : (k, i) ∈ ns) : ∃ p : Nat, (wN ns q F)[p]? = some (q k i, F i k) := by
  obtain ⟨p, hp⟩ := List.getElem?_of_mem h
  exact ⟨p, wN_at hp⟩
theorem wN_set {A : Nat → Prop} {ns : List (Nat × Nat)} {q : Nat → Nat → Nat} {F F' : Nat → Nat → va_E} {k i p : Nat} {e : va_E} (hD : va_D A (wN ns q F)) (hp : (wN ns q F)[p]? = some (q k i, e)) (hin : (k, i) ∈ ns)
    (ho : ∀ k' i' : Nat, (k', i') ∈ ns → ¬ (k' = k ∧ i' = i) → F' i' k' = F i' k') : (wN ns q F).set p (q k i, F' i k) = wN ns q F' := by
  have hl := (List.getElem?_eq_some_iff.mp hp).1
  obtain ⟨t, ht⟩ := List.getElem?_of_mem hin
  have htp : p = t := hD.1 p t _ _ hp (wN_at (F := F) ht) rfl
  apply List.ext_getElem?
  intro j
  by_cases hj : j = p
  · rw [hj, List.getElem?_set_self hl, htp, wN_at (F := F') ht]
  · rw [List.getElem?_set_ne (Ne.symm hj)]
    cases hb : ns[j]? with
    | none =>
      unfold wN
      rw [List.getElem?_map, List.getElem?_map, hb]
      rfl
    | some b =>
      rw [wN_at (F := F) hb, wN_at (F := F') hb]
      have hne : ¬ (b.1 = k ∧ b.2 = i) := fun w => hj (hD.1 j p _ _ (wN_at (F := F) hb) hp (by rw [w.1, w.2]))
      rw [ho b.1 b.2 (List.mem_of_getElem? hb) hne]
/-- the class's world -/
def cW (cI cZ cP cF : Nat) (q : Nat → Nat → Nat) (S : CST) : va_W := wN (cNames (cnP S) (cnC S)) q (cCell cI cZ cP cF q S)
theorem cW_get {cI cZ cP cF : Nat} {q : Nat → Nat → Nat} {S : CST} {k i : Nat} (h : cin S k i) : ∃ p : Nat, (cW cI cZ cP cF q S)[p]? = some (q k i, cCell cI cZ cP cF q S i k) := wN_get (cNames_in h)
/-- one object changes -/
theorem cW_set {A : Nat → Prop} {cI cZ cP cF : Nat} {q : Nat → Nat → Nat} {v v' : Nat → Nat → Nat → Int32} {T : Nat × Nat} {k i p : Nat} {e : va_E} (hD : va_D A (cW cI cZ cP cF q (v, T))) (hp : (cW cI cZ cP cF q (v, T))[p]? = some (q k i, e)) (hin : cin (v, T) k i)
    (ho : ∀ k' i' : Nat, cin (v, T) k' i' → ¬ (k' = k ∧ i' = i) → cCell cI cZ cP cF q (v', T) i' k' = cCell cI cZ cP cF q (v, T) i' k') : (cW cI cZ cP cF q (v, T)).set p (q k i, cCell cI cZ cP cF q (v', T) i k) = cW cI cZ cP cF q (v', T) :=
  wN_set (F' := cCell cI cZ cP cF q (v', T)) hD hp (cNames_in hin) (fun k' i' hm hne => ho k' i' (cNames_of (S := (v, T)) hm) hne)
