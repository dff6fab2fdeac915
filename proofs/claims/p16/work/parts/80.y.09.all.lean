/-! ALL INSTRUCTIONS of a METHOD, one behind another -/
def gTg (as : Nat → Bool) (val : Nat → Int32) (tg on : Bool) (ip : Int32) (G : GS) : GS := if tg = true then gBegin as val (if on = true then gLays ip 8 7 G else G) else G
/-- the one ahead goes on to it -/
def gOn (op : Nat → Nat) (dp : Nat → Int32) (i : Nat) : Bool := decide (¬ i = 0 ∧ ¬ dp (i - 1) = -1 ∧ ¬ op (i - 1) = 9 ∧ ¬ op (i - 1) = 12)
def gStep (as : Nat → Bool) (val : Nat → Int32) (tg : Nat → Bool) (op : Nat → Nat) (xs dp : Nat → Int32) (i : Nat) (G : GS) : GS :=
  if dp i = -1 then G else gMake as val (op i) (xs i) (dp i).toNatClampNeg (dp (i + 1)) (nI i) (gTg as val (tg i) (gOn op dp i) (nI (i - 1)) G)
def gRun (as : Nat → Bool) (val : Nat → Int32) (tg : Nat → Bool) (op : Nat → Nat) (xs dp : Nat → Int32) (H : GS) : Nat → GS
  | 0 => gBegin as val H
  | i + 1 => gStep as val tg op xs dp i (gRun as val tg op xs dp H i)
/-- where the PARTS of an INSTRUCTION begin -/
def gPos (as : Nat → Bool) (val : Nat → Int32) (tg : Nat → Bool) (op : Nat → Nat) (xs dp : Nat → Int32) (H : GS) (i : Nat) : Nat := gN (gTg as val (tg i) (gOn op dp i) (nI (i - 1)) (gRun as val tg op xs dp H i))
/-- a METHOD as it must be, to be put into code -/
def LkP (as : Nat → Bool) (tg : Nat → Bool) (n : Nat) (op : Nat → Nat) (xs dp : Nat → Int32) : Prop := 1 ≤ n ∧ n ≤ 60 ∧ tg 0 = true ∧ dp 0 = nI 0 ∧ ∀ i : Nat, i < n → dp i = -1 ∨ ∃ d : Nat, dp i = nI d ∧ InsOk as (op i) d (xs i) (dp (i + 1)) ∧ (op i = 11 → i + 1 < n) ∧ (¬ op i = 9 → ¬ op i = 12 → i + 1 < n ∧ ∃ e : Nat, dp (i + 1) = nI e ∧ e ≤ 8 ∧ (op i = 11 ∨ d + lyN (op i) ≤ e + tkN (op i) 0)) ∧ (tg i = true ∨ gOn op dp i = true)
theorem gOn_0 {op : Nat → Nat} {dp : Nat → Int32} : gOn op dp 0 = false := decide_eq_false (fun h => h.1 rfl)
theorem gPos_0 {as : Nat → Bool} {val : Nat → Int32} {tg : Nat → Bool} {op : Nat → Nat} {xs dp : Nat → Int32} {H : GS} : gPos as val tg op xs dp H 0 = gN H := by
  unfold gPos gTg
  rw [gOn_0, if_neg Bool.false_ne_true]
  split <;> rfl
theorem gTg_pot {as : Nat → Bool} {val : Nat → Int32} {tg on : Bool} {ip : Int32} {G : GS} : pot (gTg as val tg on ip G) ≤ pot G := by
  unfold gTg
  split
  · refine Nat.le_trans pot_begin ?_
    split
    · exact pot_lays 8 7 G (by omega) (by omega)
    · exact Nat.le_refl _
  · exact Nat.le_refl _
theorem gTg_CD {as : Nat → Bool} {val : Nat → Int32} {tg on : Bool} {ip : Int32} {G : GS} {h : Nat} (hc : CD as val h G) : CD as val h (gTg as val tg on ip G) := by
  unfold gTg
  split
  · split
    · exact CD.lays 8 7 G hc (by omega) (by omega)
    · exact hc
  · exact hc
section GALL
variable {as : Nat → Bool} {val : Nat → Int32} {tg : Nat → Bool} {n : Nat} {op : Nat → Nat} {xs dp : Nat → Int32} {H : GS}
theorem gStep_dead {i : Nat} {G : GS} (h : dp i = -1) : gStep as val tg op xs dp i G = G := if_pos h
theorem gStep_live {i d : Nat} {G : GS} (h : dp i = nI d) (hd : d ≤ 8) : gStep as val tg op xs dp i G = gMake as val (op i) (xs i) d (dp (i + 1)) (nI i) (gTg as val (tg i) (gOn op dp i) (nI (i - 1)) G) := by
  unfold gStep
  rw [if_neg (by rw [h]; exact nI_neg1 (by omega)), h, nI_clamp (by omega)]
/-- what holds of all of it -/
theorem gRun_inv (hL : LkP as tg n op xs dp) (hH : CD as val (gN H) H) (hN : gN H ≤ 11) : ∀ j : Nat, j ≤ n → pot (gRun as val tg op xs dp H j) ≤ 11 + 9 * j ∧ CD as val (gN H) (gRun as val tg op xs dp H j) ∧ ∀ d : Nat, dp j = nI d → d ≤ 8 → (j = 0 ∨ gOn op dp j = true) → KB d (gRun as val tg op xs dp H j) := by
  obtain ⟨hn1, hn60, ht0, hd0, hL⟩ := hL
  intro j
  induction j with
  | zero =>
    intro _
    refine ⟨?_, hH, fun d _ _ _ => KB.mono KB_begin (Nat.zero_le _)⟩
    have h0 : gC (gBegin as val H) = 0 := Nat.le_zero.mp (sN_const (c := 0) 8 (fun t _ => by
      show (if (if 7 + t < 3 then as (7 + t) else false) = true then 1 else 0) ≤ 0
      rw [if_neg (show ¬ 7 + t < 3 by omega), if_neg Bool.false_ne_true]; exact Nat.le_refl _))
    show gN H + gC (gBegin as val H) ≤ _
    omega
  | succ j ih =>
    intro hj
    obtain ⟨i1, i2, i3⟩ := ih (by omega)
    rcases hL j (by omega) with hdj | ⟨d, hdj, hI, h11, hnx, htg⟩
    · have e : gRun as val tg op xs dp H (j + 1) = gRun as val tg op xs dp H j := gStep_dead hdj
      rw [e]
      refine ⟨by omega, i2, fun d _ _ hon => absurd hon ?_⟩
      intro hon
      have := of_decide_eq_true (hon.resolve_left (by omega))
      exact this.2.1 (by rw [show j + 1 - 1 = j by omega]; exact hdj)
    · have hd8 := hI.2.1
      have e : gRun as val tg op xs dp H (j + 1) = gMake as val (op j) (xs j) d (dp (j + 1)) (nI j) (gTg as val (tg j) (gOn op dp j) (nI (j - 1)) (gRun as val tg op xs dp H j)) := gStep_live hdj hd8
      rw [e]
      have p1 := pot_make (as := as) (val := val) (o := op j) (d := d) (x := xs j) (Dn := dp (j + 1)) (i := nI j) (G := gTg as val (tg j) (gOn op dp j) (nI (j - 1)) (gRun as val tg op xs dp H j)) hd8 hI.2.2.1 hI.1
      have p2 := gTg_pot (as := as) (val := val) (tg := tg j) (on := gOn op dp j) (ip := nI (j - 1)) (G := gRun as val tg op xs dp H j)
      refine ⟨by omega, CD.make (gTg_CD i2) hI, fun e' hde' he8 hon => ?_⟩
      have hon' := of_decide_eq_true (hon.resolve_left (by omega))
      rw [show j + 1 - 1 = j by omega] at hon'
      obtain ⟨_, e2, hde2, he28, hor⟩ := hnx hon'.2.2.1 hon'.2.2.2
      obtain rfl : e2 = e' := nI_inj (hde2.symm.trans hde') (by omega) (by omega)
      have hK : KB d (gTg as val (tg j) (gOn op dp j) (nI (j - 1)) (gRun as val tg op xs dp H j)) := by
        unfold gTg
        by_cases c : tg j = true
        · rw [if_pos c]; exact KB.mono KB_begin (Nat.zero_le _)
        · rw [if_neg c]; exact i3 d hdj hd8 (Or.inr (htg.resolve_left c))
      refine KB_make hI.1 hK (fun q => ?_) (hor.imp id (fun w => ⟨hon'.2.2.2, w⟩))
      obtain ⟨l, hl, ex⟩ := hI.2.2.2.2.1 (Or.inr q)
      rw [ex, nI_clamp (by omega)]; omega
theorem gTg_KB (hL : LkP as tg n op xs dp) (hH : CD as val (gN H) H) (hN : gN H ≤ 11) {j d : Nat} (hj : j < n) (hd : dp j = nI d) (hd8 : d ≤ 8) : KB d (gTg as val (tg j) (gOn op dp j) (nI (j - 1)) (gRun as val tg op xs dp H j)) := by
  unfold gTg
  by_cases c : tg j = true
  · rw [if_pos c]; exact KB.mono KB_begin (Nat.zero_le _)
  · rw [if_neg c]
    rcases hL.2.2.2.2 j hj with w | ⟨_, _, _, _, _, htg⟩
    · rw [w] at hd; exact absurd hd.symm (nI_neg1 (by omega))
    · exact (gRun_inv hL hH hN j (by omega)).2.2 d hd hd8 (Or.inr (htg.resolve_left c))
end GALL
