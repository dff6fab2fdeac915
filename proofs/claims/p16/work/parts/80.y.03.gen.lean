/-! PUTTING INTO CODE, as one function for class and reference -/
/-- a PART: op, d, a, b, its INSTRUCTION -/
abbrev T5 : Type := Int32 × Int32 × Int32 × Int32 × Int32
/-- how many PARTS, the PARTS, what is KNOWN of the registers 0 to 14, and as what -/
abbrev GS : Type := Nat × (Nat → T5) × (Nat → Bool) × (Nat → Int32)
abbrev gN (G : GS) : Nat := G.1
abbrev gP (G : GS) : Nat → T5 := G.2.1
abbrev gK (G : GS) : Nat → Bool := G.2.2.1
abbrev gW (G : GS) : Nat → Int32 := G.2.2.2
def gAdd (t : T5) (G : GS) : GS := (gN G + 1, (fun p => if p = gN G then t else gP G p), gK G, gW G)
def gKnow (r : Nat) (v : Int32) (G : GS) : GS := (gN G, gP G, (fun q => if q = r then true else gK G q), (fun q => if q = r then v else gW G q))
def gForget (r : Nat) (G : GS) : GS := (gN G, gP G, (fun q => if q = r then false else gK G q), gW G)
def gLay (r : Nat) (i : Int32) (G : GS) : GS := if gK G r = true then gForget r (gAdd (0, nI r, gW G r, 0, i) G) else G
def gLays (i : Int32) : Nat → Nat → GS → GS
  | 0, _, G => G
  | k + 1, r, G => gLays i k (r + 1) (gLay r i G)
/-- the GUARD of a thing -/
def gdT (val : Nat → Int32) (i : Int32) (t : Nat) : T5 := if t < 3 then (17, nI t, val t, 0, i) else (18, nI (t - 3), val t, 0, i)
def gGuard (as : Nat → Bool) (val : Nat → Int32) (i : Int32) (t : Nat) (G : GS) : GS := if as t = true then gAdd (gdT val i t) G else G
def gGuards (as : Nat → Bool) (val : Nat → Int32) (i : Int32) : Nat → Nat → GS → GS
  | 0, _, G => G
  | k + 1, t, G => gGuards as val i k (t + 1) (gGuard as val i t G)
/-- of LOCALS the ASSUMED ARGS alone are KNOWN -/
def gBegin (as : Nat → Bool) (val : Nat → Int32) (G : GS) : GS := (gN G, gP G, (fun r => if r < 3 then as r else false), val)
def clc (o : Nat) (a b : Int32) : Int32 := if o = 3 then a + b else if o = 4 then a - b else if o = 5 then a * b else if o = 6 then a / b else if o = 7 then (if a < b then 1 else 0) else (if a = b then 1 else 0)
/-- the PART that the INSTRUCTION is with nothing KNOWN -/
def gT (o : Nat) (x : Int32) (d : Nat) (Dn i : Int32) (G : GS) : GS := gAdd ((tpl o x (nI d) Dn).1, (tpl o x (nI d) Dn).2.1, (tpl o x (nI d) Dn).2.2.1, (tpl o x (nI d) Dn).2.2.2, i) G
/-- both are KNOWN, and it is no division by 0 -/
def gBoth (o d : Nat) (G : GS) : Bool := gK G (5 + d) && (gK G (6 + d) && !(o == 6 && gW G (6 + d) == 0))
def gTwo (o : Nat) (x : Int32) (d : Nat) (Dn i : Int32) (G : GS) : GS := if gBoth o d G = true then gForget (6 + d) (gKnow (5 + d) (clc o (gW G (5 + d)) (gW G (6 + d))) G) else gT o x d Dn i (gLay (6 + d) i (gLay (5 + d) i G))
def gStore (x : Int32) (d : Nat) (Dn i : Int32) (G : GS) : GS := if gK G (6 + d) = true then gForget (6 + d) (gKnow x.toNatClampNeg (gW G (6 + d)) (gAdd (0, x, gW G (6 + d), 0, i) G)) else gT 2 x d Dn i (gForget x.toNatClampNeg G)
def gWhen (x : Int32) (d : Nat) (Dn i : Int32) (G : GS) : GS := if gK G (6 + d) = true then (if gW G (6 + d) = 0 then gAdd (8, x, 0, 0, i) (gLays i 8 7 (gForget (6 + d) G)) else gForget (6 + d) G) else gT 10 x d Dn i (gLays i 8 7 G)
def gCopy (o : Nat) (s : Nat) (x : Int32) (d : Nat) (Dn i : Int32) (G : GS) : GS := if gK G s = true then gKnow (7 + d) (gW G s) G else gT o x d Dn i G
def gField (as : Nat → Bool) (val : Nat → Int32) (x : Int32) (d : Nat) (Dn i : Int32) (G : GS) : GS := if as (3 + x.toNatClampNeg) = true then gKnow (7 + d) (val (3 + x.toNatClampNeg)) G else gT 13 x d Dn i G
def gMake (as : Nat → Bool) (val : Nat → Int32) (o : Nat) (x : Int32) (d : Nat) (Dn i : Int32) (G : GS) : GS :=
  if o = 0 then gKnow (7 + d) x G else if o = 1 then gCopy 1 x.toNatClampNeg x d Dn i G else if o = 2 then gStore x d Dn i G else if o = 9 then gT 9 x d Dn i (gLays i 8 7 G) else if o = 10 then gWhen x d Dn i G else
  if o = 11 then gGuards as val i 8 3 (gT 11 x d Dn i (gLays i 8 7 G)) else if o = 12 ∨ o = 14 ∨ o = 15 ∨ o = 16 then gT o x d Dn i (gLay (6 + d) i G) else if o = 13 then gField as val x d Dn i G else
  if o = 17 then gT 17 x d Dn i (gLay (6 + d) i (gLay (5 + d) i G)) else if o = 18 then gCopy 18 (6 + d) x d Dn i G else if o = 19 then gForget (6 + d) G else gTwo o x d Dn i G
/-! what is KNOWN of the places of the PILE lies below the depth -/
def KB (d : Nat) (G : GS) : Prop := ∀ r : Nat, 7 + d ≤ r → r < 15 → gK G r = false
theorem KB.mono {d d' : Nat} {G : GS} (h : KB d G) (hd : d ≤ d') : KB d' G := fun r a b => h r (by omega) b
theorem gLay_K {r : Nat} {i : Int32} {G : GS} (q : Nat) : gK (gLay r i G) q = if q = r then false else gK G q := by
  unfold gLay
  by_cases c : gK G r = true
  · rw [if_pos c]; rfl
  · rw [if_neg c]
    by_cases w : q = r
    · rw [if_pos w, w]; exact Bool.eq_false_iff.mpr c
    · rw [if_neg w]
theorem gLay_W {r : Nat} {i : Int32} {G : GS} : gW (gLay r i G) = gW G := by
  unfold gLay
  split <;> rfl
theorem gLays_K {i : Int32} : ∀ (k a : Nat) (G : GS) (q : Nat), gK (gLays i k a G) q = if a ≤ q ∧ q < a + k then false else gK G q := by
  intro k
  induction k with
  | zero => intro a G q; rw [if_neg (by omega)]; rfl
  | succ k ih =>
    intro a G q
    show gK (gLays i k (a + 1) (gLay a i G)) q = _
    rw [ih, gLay_K]
    by_cases w : q = a
    · rw [if_neg (by omega), if_pos w, if_pos (by omega)]
    · rw [if_neg w]
      by_cases c : a ≤ q ∧ q < a + (k + 1)
      · rw [if_pos c, if_pos (by omega)]
      · rw [if_neg c, if_neg (by omega)]
theorem gLays_W {i : Int32} : ∀ (k a : Nat) (G : GS), gW (gLays i k a G) = gW G := by
  intro k
  induction k with
  | zero => intro a G; rfl
  | succ k ih => intro a G; show gW (gLays i k (a + 1) (gLay a i G)) = _; rw [ih, gLay_W]
theorem gLays_split {i : Int32} : ∀ (k j a : Nat) (G : GS), gLays i (k + j) a G = gLays i j (a + k) (gLays i k a G) := by
  intro k
  induction k with
  | zero => intro j a G; rw [Nat.zero_add]; rfl
  | succ k ih =>
    intro j a G
    rw [show k + 1 + j = k + j + 1 by omega]
    show gLays i (k + j) (a + 1) (gLay a i G) = gLays i j (a + (k + 1)) (gLays i k (a + 1) (gLay a i G))
    rw [ih, show a + 1 + k = a + (k + 1) by omega]
theorem gLays_none {i : Int32} : ∀ (k a : Nat) (G : GS), (∀ q : Nat, a ≤ q → q < a + k → gK G q = false) → gLays i k a G = G := by
  intro k
  induction k with
  | zero => intro a G _; rfl
  | succ k ih =>
    intro a G h
    show gLays i k (a + 1) (gLay a i G) = G
    have e : gLay a i G = G := by
      unfold gLay
      rw [if_neg (by rw [h a (Nat.le_refl _) (by omega)]; exact Bool.false_ne_true)]
    rw [e]
    exact ih (a + 1) G (fun q x y => h q (by omega) (by omega))
/-- laying all is laying those below the depth -/
theorem gLays_8 {i : Int32} {d : Nat} {G : GS} (hd : d ≤ 8) (h : KB d G) : gLays i 8 7 G = gLays i d 7 G := by
  have e : gLays i 8 7 G = gLays i (d + (8 - d)) 7 G := by rw [show d + (8 - d) = 8 by omega]
  rw [e, gLays_split]
  refine gLays_none _ _ _ (fun q x y => ?_)
  rw [gLays_K, if_neg (by omega)]
  exact h q (by omega) (by omega)
theorem KB_lays {i : Int32} {G : GS} : KB 0 (gLays i 8 7 G) := fun r a b => by rw [gLays_K, if_pos (by omega)]
theorem KB_begin {as : Nat → Bool} {val : Nat → Int32} {G : GS} : KB 0 (gBegin as val G) := fun r a _ => by
  show (if r < 3 then as r else false) = false
  rw [if_neg (by omega)]
theorem gGuards_KW {as : Nat → Bool} {val : Nat → Int32} {i : Int32} : ∀ (k t : Nat) (G : GS), gK (gGuards as val i k t G) = gK G ∧ gW (gGuards as val i k t G) = gW G := by
  intro k
  induction k with
  | zero => intro t G; exact ⟨rfl, rfl⟩
  | succ k ih =>
    intro t G
    show gK (gGuards as val i k (t + 1) (gGuard as val i t G)) = _ ∧ gW (gGuards as val i k (t + 1) (gGuard as val i t G)) = _
    rw [(ih _ _).1, (ih _ _).2]
    unfold gGuard
    split <;> exact ⟨rfl, rfl⟩
theorem gK_two {o d : Nat} {x Dn i : Int32} {G : GS} {r : Nat} (h : KB d G) (hr : r < 15) (a : 6 + d ≤ r) : gK (gTwo o x d Dn i G) r = false := by
  unfold gTwo
  split
  · show (if r = 6 + d then false else if r = 5 + d then true else gK G r) = false
    by_cases w : r = 6 + d
    · rw [if_pos w]
    · rw [if_neg w, if_neg (by omega)]; exact h r (by omega) hr
  · show gK (gLay (6 + d) i (gLay (5 + d) i G)) r = false
    rw [gLay_K, gLay_K]
    by_cases w : r = 6 + d
    · rw [if_pos w]
    · rw [if_neg w, if_neg (by omega)]; exact h r (by omega) hr
theorem gK_copy {o s d : Nat} {x Dn i : Int32} {G : GS} {r : Nat} (h : KB d G) (hr : r < 15) (a : 8 + d ≤ r) : gK (gCopy o s x d Dn i G) r = false := by
  unfold gCopy
  split
  · show (if r = 7 + d then true else gK G r) = false
    rw [if_neg (by omega)]; exact h r (by omega) hr
  · exact h r (by omega) hr
theorem gK_lay1 {o d : Nat} {x Dn i : Int32} {G : GS} {r : Nat} (h : KB d G) (hr : r < 15) (a : 6 + d ≤ r) : gK (gT o x d Dn i (gLay (6 + d) i G)) r = false := by
  show gK (gLay (6 + d) i G) r = false
  rw [gLay_K]
  by_cases w : r = 6 + d
  · rw [if_pos w]
  · rw [if_neg w]; exact h r (by omega) hr
/-- behind an INSTRUCTION: what is KNOWN lies below the depth that it leaves (JUMP, RET: it isn't gone on to) -/
theorem KB_make {as : Nat → Bool} {val : Nat → Int32} {o d e : Nat} {x Dn i : Int32} {G : GS} (ho : o < 20) (h : KB d G) (hx2 : o = 2 → x.toNatClampNeg < 7) (he : o = 11 ∨ (¬ o = 12 ∧ d + lyN o ≤ e + tkN o 0)) : KB e (gMake as val o x d Dn i G) := by
  intro r a b
  have h9 : ∀ G' : GS, gK (gLays i 8 7 G') r = false := fun G' => by rw [gLays_K, if_pos (by omega)]
  rcases z20 ho with rfl | rfl | rfl | rfl | rfl | rfl | rfl | rfl | rfl | rfl | rfl | rfl | rfl | rfl | rfl | rfl | rfl | rfl | rfl | rfl
  · have he : d + 1 ≤ e + 0 := (he.resolve_left (by decide)).2
    show (if r = 7 + d then true else gK G r) = false
    rw [if_neg (by omega)]; exact h r (by omega) b
  · have he : d + 1 ≤ e + 0 := (he.resolve_left (by decide)).2
    exact gK_copy h b (by omega)
  · have he : d + 0 ≤ e + 1 := (he.resolve_left (by decide)).2
    have hx := hx2 rfl
    show gK (gStore x d Dn i G) r = false
    unfold gStore
    split
    · show (if r = 6 + d then false else if r = x.toNatClampNeg then true else gK G r) = false
      by_cases w : r = 6 + d
      · rw [if_pos w]
      · rw [if_neg w, if_neg (by omega)]; exact h r (by omega) b
    · rename_i c
      show (if r = x.toNatClampNeg then false else gK G r) = false
      rw [if_neg (by omega)]
      by_cases w : r = 6 + d
      · rw [w]; exact Bool.eq_false_iff.mpr c
      · exact h r (by omega) b
  · have he : d + 1 ≤ e + 2 := (he.resolve_left (by decide)).2
    exact gK_two (o := 3) h b (by omega)
  · have he : d + 1 ≤ e + 2 := (he.resolve_left (by decide)).2
    exact gK_two (o := 4) h b (by omega)
  · have he : d + 1 ≤ e + 2 := (he.resolve_left (by decide)).2
    exact gK_two (o := 5) h b (by omega)
  · have he : d + 1 ≤ e + 2 := (he.resolve_left (by decide)).2
    exact gK_two (o := 6) h b (by omega)
  · have he : d + 1 ≤ e + 2 := (he.resolve_left (by decide)).2
    exact gK_two (o := 7) h b (by omega)
  · have he : d + 1 ≤ e + 2 := (he.resolve_left (by decide)).2
    exact gK_two (o := 8) h b (by omega)
  · exact h9 G
  · have he : d + 0 ≤ e + 1 := (he.resolve_left (by decide)).2
    show gK (gWhen x d Dn i G) r = false
    unfold gWhen
    split
    · split
      · exact h9 _
      · show (if r = 6 + d then false else gK G r) = false
        by_cases w : r = 6 + d
        · rw [if_pos w]
        · rw [if_neg w]; exact h r (by omega) b
    · exact h9 _
  · show gK (gGuards as val i 8 3 (gT 11 x d Dn i (gLays i 8 7 G))) r = false
    rw [(gGuards_KW _ _ _).1]; exact h9 _
  · exact absurd rfl (he.resolve_left (by decide)).1
  · have he : d + 1 ≤ e + 0 := (he.resolve_left (by decide)).2
    show gK (gField as val x d Dn i G) r = false
    unfold gField
    split
    · show (if r = 7 + d then true else gK G r) = false
      rw [if_neg (by omega)]; exact h r (by omega) b
    · exact h r (by omega) b
  · have he : d + 0 ≤ e + 1 := (he.resolve_left (by decide)).2
    exact gK_lay1 (o := 14) h b (by omega)
  · have he : d + 0 ≤ e + 1 := (he.resolve_left (by decide)).2
    exact gK_lay1 (o := 15) h b (by omega)
  · have he : d + 1 ≤ e + 1 := (he.resolve_left (by decide)).2
    exact gK_lay1 (o := 16) h b (by omega)
  · have he : d + 0 ≤ e + 2 := (he.resolve_left (by decide)).2
    show gK (gLay (6 + d) i (gLay (5 + d) i G)) r = false
    rw [gLay_K, gLay_K]
    by_cases w : r = 6 + d
    · rw [if_pos w]
    · by_cases w2 : r = 5 + d
      · rw [if_neg w, if_pos w2]
      · rw [if_neg w, if_neg w2]; exact h r (by omega) b
  · have he : d + 2 ≤ e + 1 := (he.resolve_left (by decide)).2
    exact gK_copy h b (by omega)
  · have he : d + 0 ≤ e + 1 := (he.resolve_left (by decide)).2
    show (if r = 6 + d then false else gK G r) = false
    by_cases w : r = 6 + d
    · rw [if_pos w]
    · rw [if_neg w]; exact h r (by omega) b
/-! how many PARTS there may be: PARTS and places that are KNOWN -/
def gC (G : GS) : Nat := sN (fun t => if gK G (7 + t) = true then 1 else 0) 8
def pot (G : GS) : Nat := gN G + gC G
theorem gC_le {G G' : GS} (h : ∀ t : Nat, t < 8 → gK G' (7 + t) = true → gK G (7 + t) = true) : gC G' ≤ gC G := sN_le 8 (fun t ht => by
  show (if gK G' (7 + t) = true then 1 else 0) ≤ (if gK G (7 + t) = true then 1 else 0)
  by_cases c : gK G' (7 + t) = true
  · rw [if_pos c, if_pos (h t ht c)]; exact Nat.le_refl _
  · rw [if_neg c]; exact Nat.zero_le _)
theorem gC_8 (G : GS) : gC G ≤ 8 := Nat.le_trans (sN_const (c := 1) 8 (fun t _ => by
  show (if gK G (7 + t) = true then 1 else 0) ≤ 1
  split <;> omega)) (by omega)
theorem pot_add {t : T5} {G : GS} : pot (gAdd t G) = pot G + 1 := by
  show gN G + 1 + gC G = gN G + gC G + 1
  omega
theorem pot_forget {r : Nat} {G : GS} : pot (gForget r G) ≤ pot G := by
  refine Nat.add_le_add_left (gC_le (fun t _ c => ?_)) (gN G)
  have c : (if 7 + t = r then false else gK G (7 + t)) = true := c
  by_cases w : 7 + t = r
  · rw [if_pos w] at c; cases c
  · rw [if_neg w] at c; exact c
theorem pot_know {r : Nat} {v : Int32} {G : GS} : pot (gKnow r v G) ≤ pot G + 1 := by
  have := sN_up1 (f := fun t => if gK (gKnow r v G) (7 + t) = true then 1 else 0) (g := fun t => if gK G (7 + t) = true then 1 else 0) (j := r - 7) 8 (fun t _ ht => by
    show (if (if 7 + t = r then true else gK G (7 + t)) = true then 1 else 0) ≤ (if gK G (7 + t) = true then 1 else 0)
    rw [if_neg (show ¬ 7 + t = r by omega)]; exact Nat.le_refl _) (fun _ => by
    show (if gK (gKnow r v G) (7 + (r - 7)) = true then 1 else 0) ≤ (if gK G (7 + (r - 7)) = true then 1 else 0) + 1
    split <;> omega)
  unfold pot gC
  show gN G + _ ≤ gN G + _ + 1
  omega
theorem pot_lay {r : Nat} {i : Int32} {G : GS} (h7 : 7 ≤ r) (h15 : r < 15) : pot (gLay r i G) ≤ pot G := by
  unfold gLay
  by_cases c : gK G r = true
  · rw [if_pos c]
    have := sN_lt (f := fun t => if gK (gForget r (gAdd (0, nI r, gW G r, 0, i) G)) (7 + t) = true then 1 else 0) (g := fun t => if gK G (7 + t) = true then 1 else 0) 8 (fun t _ => by
      show (if (if 7 + t = r then false else gK G (7 + t)) = true then 1 else 0) ≤ (if gK G (7 + t) = true then 1 else 0)
      by_cases w : 7 + t = r
      · rw [if_pos w, if_neg Bool.false_ne_true]; exact Nat.zero_le _
      · rw [if_neg w]; exact Nat.le_refl _) (r - 7) (by omega) (by
      show (if (if 7 + (r - 7) = r then false else gK G (7 + (r - 7))) = true then 1 else 0) < (if gK G (7 + (r - 7)) = true then 1 else 0)
      rw [show 7 + (r - 7) = r by omega, if_pos rfl, if_pos c, if_neg Bool.false_ne_true]; omega)
    unfold pot gC
    show gN G + 1 + _ ≤ gN G + _
    omega
  · rw [if_neg c]; exact Nat.le_refl _
theorem pot_lays {i : Int32} : ∀ (k a : Nat) (G : GS), 7 ≤ a → a + k ≤ 15 → pot (gLays i k a G) ≤ pot G := by
  intro k
  induction k with
  | zero => intro a G _ _; exact Nat.le_refl _
  | succ k ih => intro a G h7 h15; exact Nat.le_trans (ih (a + 1) _ (by omega) (by omega)) (pot_lay h7 (by omega))
theorem pot_guards {as : Nat → Bool} {val : Nat → Int32} {i : Int32} : ∀ (k t : Nat) (G : GS), pot (gGuards as val i k t G) ≤ pot G + k := by
  intro k
  induction k with
  | zero => intro t G; exact Nat.le_refl _
  | succ k ih =>
    intro t G
    have h1 := ih (t + 1) (gGuard as val i t G)
    have h2 : pot (gGuard as val i t G) ≤ pot G + 1 := by
      unfold gGuard
      split
      · rw [pot_add]; exact Nat.le_refl _
      · omega
    show pot (gGuards as val i k (t + 1) (gGuard as val i t G)) ≤ _
    omega
theorem pot_T {o d : Nat} {x Dn i : Int32} {G : GS} : pot (gT o x d Dn i G) = pot G + 1 := pot_add
theorem pot_begin {as : Nat → Bool} {val : Nat → Int32} {G : GS} : pot (gBegin as val G) ≤ pot G := by
  refine Nat.add_le_add_left (gC_le (fun t _ c => ?_)) (gN G)
  have c : (if 7 + t < 3 then as (7 + t) else false) = true := c
  rw [if_neg (by omega)] at c
  cases c
theorem pot_make {as : Nat → Bool} {val : Nat → Int32} {o d : Nat} {x Dn i : Int32} {G : GS} (hd : d ≤ 8) (h1 : tkN o 0 ≤ d) (ho : o < 20) : pot (gMake as val o x d Dn i G) ≤ pot G + 9 := by
  have hl8 : ∀ G' : GS, pot (gLays i 8 7 G') ≤ pot G' := fun G' => pot_lays 8 7 G' (by omega) (by omega)
  have copy : ∀ o' s : Nat, pot (gCopy o' s x d Dn i G) ≤ pot G + 9 := fun o' s => by
    unfold gCopy
    split
    · have := pot_know (r := 7 + d) (v := gW G s) (G := G); omega
    · rw [pot_T]; omega
  have two : ∀ o' : Nat, 2 ≤ d → pot (gTwo o' x d Dn i G) ≤ pot G + 9 := fun o' h2 => by
    unfold gTwo
    split
    · have a := pot_know (r := 5 + d) (v := clc o' (gW G (5 + d)) (gW G (6 + d))) (G := G)
      have b := pot_forget (r := 6 + d) (G := gKnow (5 + d) (clc o' (gW G (5 + d)) (gW G (6 + d))) G)
      omega
    · rw [pot_T]
      have a := pot_lay (r := 5 + d) (i := i) (G := G) (by omega) (by omega)
      have b := pot_lay (r := 6 + d) (i := i) (G := gLay (5 + d) i G) (by omega) (by omega)
      omega
  have lay1 : ∀ o' : Nat, 1 ≤ d → pot (gT o' x d Dn i (gLay (6 + d) i G)) ≤ pot G + 9 := fun o' h2 => by
    rw [pot_T]
    have b := pot_lay (r := 6 + d) (i := i) (G := G) (by omega) (by omega)
    omega
  rcases z20 ho with rfl | rfl | rfl | rfl | rfl | rfl | rfl | rfl | rfl | rfl | rfl | rfl | rfl | rfl | rfl | rfl | rfl | rfl | rfl | rfl
  · have := pot_know (r := 7 + d) (v := x) (G := G)
    exact Nat.le_trans this (by omega)
  · exact copy 1 x.toNatClampNeg
  · show pot (gStore x d Dn i G) ≤ _
    unfold gStore
    split
    · have a := pot_add (t := (0, x, gW G (6 + d), 0, i)) (G := G)
      have b := pot_know (r := x.toNatClampNeg) (v := gW G (6 + d)) (G := gAdd (0, x, gW G (6 + d), 0, i) G)
      have c := pot_forget (r := 6 + d) (G := gKnow x.toNatClampNeg (gW G (6 + d)) (gAdd (0, x, gW G (6 + d), 0, i) G))
      omega
    · rw [pot_T]
      have a := pot_forget (r := x.toNatClampNeg) (G := G)
      omega
  · exact two 3 h1
  · exact two 4 h1
  · exact two 5 h1
  · exact two 6 h1
  · exact two 7 h1
  · exact two 8 h1
  · show pot (gT 9 x d Dn i (gLays i 8 7 G)) ≤ _
    rw [pot_T]
    have := hl8 G
    omega
  · show pot (gWhen x d Dn i G) ≤ _
    unfold gWhen
    split
    · have a := pot_forget (r := 6 + d) (G := G)
      split
      · rw [pot_add]
        have := hl8 (gForget (6 + d) G)
        omega
      · omega
    · rw [pot_T]
      have := hl8 G
      omega
  · show pot (gGuards as val i 8 3 (gT 11 x d Dn i (gLays i 8 7 G))) ≤ _
    have a := pot_guards (as := as) (val := val) (i := i) 8 3 (gT 11 x d Dn i (gLays i 8 7 G))
    rw [pot_T] at a
    have := hl8 G
    omega
  · exact lay1 12 h1
  · show pot (gField as val x d Dn i G) ≤ _
    unfold gField
    split
    · have := pot_know (r := 7 + d) (v := val (3 + x.toNatClampNeg)) (G := G); omega
    · rw [pot_T]; omega
  · exact lay1 14 h1
  · exact lay1 15 h1
  · exact lay1 16 h1
  · have h2 : 2 ≤ d := h1
    show pot (gT 17 x d Dn i (gLay (6 + d) i (gLay (5 + d) i G))) ≤ _
    rw [pot_T]
    have a := pot_lay (r := 5 + d) (i := i) (G := G) (by omega) (by omega)
    have b := pot_lay (r := 6 + d) (i := i) (G := gLay (5 + d) i G) (by omega) (by omega)
    omega
  · exact copy 18 (6 + d)
  · exact Nat.le_trans (pot_forget (r := 6 + d) (G := G)) (by omega)
