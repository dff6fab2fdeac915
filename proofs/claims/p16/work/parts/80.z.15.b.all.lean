/-! BOTH at a PART: what all ops share -/
theorem cs_c {S : CST} {k i k' : Nat} {g : Nat → Int32} (hk : k' ≠ k) : cv (cs S k i g) k' = cv S k' := funext fun i' => cs_n _ _ (fun w => hk w.1)
/-- the call on top stands at PART p of a code -/
def StP (S : CST) (Sm : MST) (f s m j c N h0 n p : Nat) (P : Nat → T5) (as : Nat → Bool) (val : Nat → Int32) (st : Nat → Nat) : Prop := cnP S ≤ 8 ∧ cnC S ≤ 2 ^ 31 ∧ RnR S Sm (f + 1) s ∧ f < 16 ∧ FrC S Sm f m ∧ Sm 37 0 = nI (f + 1) ∧ Sm 40 f = nI (12 * m + j) ∧ j < 12 ∧ cv S 221 f 0 = nI c ∧ c < cnC S ∧ CdX S Sm m j c N h0 n P as val st ∧ Sm 39 f = nI p ∧ p < N ∧ cv S 222 f 0 = nI p ∧ Sm 43 0 = 0 ∧ ∀ u : Nat, u < 11 → as u = true → OkT Sm f val u ∨ PeT val N P p u
def TwR (R : (MST → Prop) → Prop) (S1 : CST) : Prop := R (fun Sm1 => OutR S1 Sm1) ∨ (cv S1 127 0 0 = 4 ∧ ¬ cv S1 128 0 0 = -1 ∧ wp_X7_begin S1 (fun S2 => wp_X7_choosePath S2 (fun S3 => R (fun Sm1 => OutR S3 Sm1))))
theorem ResR.two {S : CST} {R : (MST → Prop) → Prop} (h : wp_X7_turn S (TwR R)) : ResR S R := Or.inr h
theorem js_step {S : CST} {Sm : MST} {f s m j c N h0 n p : Nat} {P : Nat → T5} {as : Nat → Bool} {val : Nat → Int32} {st : Nat → Nat} (h : StP S Sm f s m j c N h0 n p P as val st) {o d a b i : Int32} (e : P p = (o, d, a, b, i)) (hb : tuD (cs S 222 f (fun _ => nI (p + 1))) f o d a b i (TwR (wp_X12_goesByPart Sm))) : ResR S (wp_X12_goesByPart Sm) := by
  obtain ⟨hM8, hC, hR, hf, hF, h37, h40, hj, h221, hc, hx, h39, hp, h222, h43, hok⟩ := h
  obtain ⟨x1, x2, x3, x4, x5, x6, ⟨c1, c2, c3, c4, c5, c6⟩, m1, m2, m3⟩ := hx
  obtain ⟨q0, q1, q2, q3, q4⟩ := c5 p hp
  rw [e] at q0 q1 q2 q3 q4
  have hm := hF.1
  exact ResR.two (xt_turn hR.2.2.2.1 hf hF.2.1 (by omega) h221 hc (by omega) h222 c3 (by omega) hp q0 q1 q2 q3 q4 hb)
theorem js_ref {S : CST} {Sm : MST} {f s m j c N h0 n p : Nat} {P : Nat → T5} {as : Nat → Bool} {val : Nat → Int32} {st : Nat → Nat} (h : StP S Sm f s m j c N h0 n p P as val st) {o d a b i : Int32} {Post : MST → Prop} (e : P p = (o, d, a, b, i)) (hg : gpD Sm (ms Sm 39 (upd (Sm 39) f (nI (p + 1)))) (nI f) (nI (15 * f)) (nI (640 * (12 * m + j) + p)) o d a b i Post) : wp_X12_goesByPart Sm Post := by
  obtain ⟨hM8, hC, hR, hf, hF, h37, h40, hj, h221, hc, hx, h39, hp, h222, h43, hok⟩ := h
  obtain ⟨x1, x2, x3, x4, x5, x6, ⟨c1, c2, c3, c4, c5, c6⟩, m1, m2, m3⟩ := hx
  obtain ⟨q0, q1, q2, q3, q4⟩ := m2 p hp
  rw [e] at q0 q1 q2 q3 q4
  have hm := hF.1
  exact mt_part h37 hf h40 (by omega) h39 (by omega) q0 q1 q2 q3 q4 hg
theorem js_op {S : CST} {Sm : MST} {f s m j c N h0 n p : Nat} {P : Nat → T5} {as : Nat → Bool} {val : Nat → Int32} {st : Nat → Nat} (h : StP S Sm f s m j c N h0 n p P as val st) {o d a b i : Int32} (e : P p = (o, d, a, b, i)) : (ms Sm 39 (upd (Sm 39) f (nI (p + 1)))) 25 (nI (640 * (12 * m + j) + p)).toNatClampNeg = o := by
  obtain ⟨hM8, hC, hR, hf, hF, h37, h40, hj, h221, hc, hx, h39, hp, h222, h43, hok⟩ := h
  obtain ⟨x1, x2, x3, x4, x5, x6, ⟨c1, c2, c3, c4, c5, c6⟩, m1, m2, m3⟩ := hx
  obtain ⟨q0, q1, q2, q3, q4⟩ := m2 p hp
  rw [e] at q0
  have hm := hF.1
  rw [ms_n _ _ (by decide), nI_clamp (by omega)]
  exact q0
theorem js_vp {S : CST} {Sm : MST} {f s m j c N h0 n p : Nat} {P : Nat → T5} {as : Nat → Bool} {val : Nat → Int32} {st : Nat → Nat} (h : StP S Sm f s m j c N h0 n p P as val st) : vp_in (nI (640 * (12 * m + j) + p)) 61440 := by
  obtain ⟨hM8, hC, hR, hf, hF, h37, h40, hj, h221, hc, hx, h39, hp, h222, h43, hok⟩ := h
  have hm := hF.1
  have := hx.2.2.2.1
  exact vp_in_nI (by omega) (by omega)
theorem js_all {S : CST} {Sm : MST} {f s m j c N h0 n p : Nat} {P : Nat → T5} {as : Nat → Bool} {val : Nat → Int32} {st : Nat → Nat} (h : StP S Sm f s m j c N h0 n p P as val st) (h17 : ¬ (P p).1 = 17) (h18 : ¬ (P p).1 = 18) : ∀ u : Nat, u < 11 → as u = true → OkT Sm f val u := by
  obtain ⟨hM8, hC, hR, hf, hF, h37, h40, hj, h221, hc, hx, h39, hp, h222, h43, hok⟩ := h
  intro u hu ha
  rcases hok u hu ha with w | ⟨p', a, _, b, _⟩
  · exact w
  · rcases b p (Nat.le_refl _) a with w | w
    · exact absurd w h17
    · exact absurd w h18
theorem OkT.keep {Sm Sm1 : MST} {f u : Nat} {val : Nat → Int32} (h : OkT Sm f val u) (e42 : u < 3 → Sm1 42 (15 * f + u) = Sm 42 (15 * f + u)) (e12 : ¬ u < 3 → Sm1 12 (u - 3) = Sm 12 (u - 3)) : OkT Sm1 f val u := by
  unfold OkT at h ⊢
  by_cases w : u < 3
  · rw [if_pos w] at h ⊢; rw [e42 w]; exact h
  · rw [if_neg w] at h ⊢; rw [e12 w]; exact h
/-- both go on at a PART of the same code -/
theorem js_to {S : CST} {Sm : MST} {f s m j c N h0 n p : Nat} {P : Nat → T5} {as : Nat → Bool} {val : Nat → Int32} {st : Nat → Nat} (h : StP S Sm f s m j c N h0 n p P as val st) {S1 : CST} {Sm1 : MST} {x y s1 : Nat} (e : Ex [40, 50, 60, 201, 222, 230] S S1) (o222 : ∀ g : Nat, g ≠ f → cv S1 222 g = cv S 222 g) (o230 : ∀ g : Nat, g ≠ f → cv S1 230 g = cv S 230 g) (em : Fm [12, 13, 14, 39, 42, 44] Sm Sm1) (o39 : ∀ g : Nat, g ≠ f → Sm1 39 g = Sm 39 g) (o42 : ∀ g t : Nat, g ≠ f → t < 15 → Sm1 42 (15 * g + t) = Sm 42 (15 * g + t)) (hd : DaR S1 Sm1) (hr : ∀ t : Nat, t < 15 → cv S1 230 f t = Sm1 42 (15 * f + t)) (g222 : cv S1 222 f 0 = nI y) (g39 : Sm1 39 f = nI x) (hxN : x ≤ N)
    (hok' : (y = x ∧ ∀ u : Nat, u < 11 → as u = true → OkT Sm1 f val u ∨ PeT val N P x u) ∨ (x ≤ y ∧ y = h0 ∧ ∀ u : Nat, u < 11 → as u = true → OkT Sm1 f val u)) (hs : cv S1 201 0 0 = nI s1) (hs2 : Sm1 44 0 = nI s1) (hs3 : s1 ≤ 1500) : OutR S1 Sm1 := by
  obtain ⟨hM8, hC, hR, hf, hF, h37, h40, hj, h221, hc, hx, h39, hp, h222, h43, hok⟩ := h
  have em' : Fm [12, 13, 14, 39, 41, 42, 44] Sm Sm1 := Fm.step em (by decide) Fm.rf
  refine Or.inr ⟨f + 1, s1, by omega, by rw [em 37 rfl]; exact h37, by rw [em 43 rfl]; exact h43, hR.top hM8 e o222 o230 em' (fun g hg => ⟨o39 g hg, by rw [em 41 rfl]⟩) o42 hd hr (fun m' hF' _ => ?_) hs hs2 hs3⟩
  have h1 := hF.1
  have h2 := hF'.1
  obtain rfl : m' = m := nI_inj (hF'.2.1.symm.trans hF.2.1) (by omega) (by omega)
  have p2 : cnC S1 = cnC S := congrArg Prod.snd e.1
  exact Or.inr ⟨j, c, N, h0, n, P, as, val, st, x, y, by rw [em 40 rfl]; exact h40, hj, by rw [e.2 221 rfl]; exact h221, by rw [p2]; exact hc, hx.ex e rfl em rfl, g39, hxN, g222, hok'⟩
/-- nothing but the place has changed -/
theorem js_id {S : CST} {Sm : MST} {f s m j c N h0 n p : Nat} {P : Nat → T5} {as : Nat → Bool} {val : Nat → Int32} {st : Nat → Nat} (h : StP S Sm f s m j c N h0 n p P as val st) (hok' : ∀ u : Nat, u < 11 → as u = true → OkT Sm f val u ∨ PeT val N P (p + 1) u) : OutR (cs S 222 f (fun _ => nI (p + 1))) (ms Sm 39 (upd (Sm 39) f (nI (p + 1)))) := by
  obtain ⟨hM8, hC, hR, hf, hF, h37, h40, hj, h221, hc, hx, h39, hp, h222, h43, hok⟩ := id h
  have e : Ex [40, 50, 60, 201, 222, 230] S (cs S 222 f (fun _ => nI (p + 1))) := Ex.cs (by decide) Ex.rf
  have em : Fm [12, 13, 14, 39, 42, 44] Sm (ms Sm 39 (upd (Sm 39) f (nI (p + 1)))) := Fm.put rfl rfl Fm.rf
  refine js_to h e (fun g hg => cs_i hg) (fun g hg => by rw [cs_n _ _ (fun w => absurd w.1 (by decide))]) em (fun g hg => by rw [ms_s, upd_n _ _ hg]) (fun g t _ _ => by rw [ms_n _ _ (by decide)]) (hR.2.1.same (cs_c (by decide)) (cs_c (by decide)) (cs_c (by decide)) (ms_n _ _ (by decide)) (ms_n _ _ (by decide)) (ms_n _ _ (by decide))) (fun t ht => ?_) (x := p + 1) (y := p + 1) (s1 := s) ?_ ?_ (by omega) (Or.inl ⟨rfl, fun u hu ha => ?_⟩) ?_ ?_ hR.2.2.2.2.2.2.2.2.1
  · rw [cs_n _ _ (fun w => absurd w.1 (by decide)), ms_n _ _ (by decide)]; exact hF.2.2.2 t ht
  · rw [cs_s]
  · rw [ms_s, upd_s]
  · exact (hok' u hu ha).imp (fun w => w.keep (fun _ => by rw [ms_n _ _ (by decide)]) (fun _ => by rw [ms_n _ _ (by decide)])) id
  · rw [cs_n _ _ (fun w => absurd w.1 (by decide))]; exact hR.2.2.2.2.2.2.1
  · rw [ms_n _ _ (by decide)]; exact hR.2.2.2.2.2.2.2.1
/-- one register has changed -/
theorem js_reg {S : CST} {Sm : MST} {f s m j c N h0 n p : Nat} {P : Nat → T5} {as : Nat → Bool} {val : Nat → Int32} {st : Nat → Nat} (h : StP S Sm f s m j c N h0 n p P as val st) {x : Nat} (hx15 : x < 15) (hxa : x < 3 → as x = false) (hall : ∀ u : Nat, u < 11 → as u = true → OkT Sm f val u) (v : Int32) : OutR (cs (cs S 222 f (fun _ => nI (p + 1))) 230 f (upd (cv (cs S 222 f (fun _ => nI (p + 1))) 230 f) x v)) (ms (ms Sm 39 (upd (Sm 39) f (nI (p + 1)))) 42 (upd ((ms Sm 39 (upd (Sm 39) f (nI (p + 1)))) 42) (15 * f + x) v)) := by
  obtain ⟨hM8, hC, hR, hf, hF, h37, h40, hj, h221, hc, hx, h39, hp, h222, h43, hok⟩ := id h
  have e : Ex [40, 50, 60, 201, 222, 230] S (cs (cs S 222 f (fun _ => nI (p + 1))) 230 f (upd (cv (cs S 222 f (fun _ => nI (p + 1))) 230 f) x v)) := Ex.cs (by decide) (Ex.cs (by decide) Ex.rf)
  have em : Fm [12, 13, 14, 39, 42, 44] Sm (ms (ms Sm 39 (upd (Sm 39) f (nI (p + 1)))) 42 (upd ((ms Sm 39 (upd (Sm 39) f (nI (p + 1)))) 42) (15 * f + x) v)) := Fm.put rfl rfl (Fm.put rfl rfl Fm.rf)
  refine js_to h e (fun g hg => ?_) (fun g hg => ?_) em (fun g hg => ?_) (fun g t hg ht => ?_) (hR.2.1.same (by rw [cs_c (by decide), cs_c (by decide)]) (by rw [cs_c (by decide), cs_c (by decide)]) (by rw [cs_c (by decide), cs_c (by decide)]) (by rw [ms_n _ _ (by decide), ms_n _ _ (by decide)]) (by rw [ms_n _ _ (by decide), ms_n _ _ (by decide)]) (by rw [ms_n _ _ (by decide), ms_n _ _ (by decide)])) (fun t ht => ?_) (x := p + 1) (y := p + 1) (s1 := s) ?_ ?_ (by omega) (Or.inl ⟨rfl, fun u hu ha => Or.inl ?_⟩) ?_ ?_ hR.2.2.2.2.2.2.2.2.1
  · rw [cs_c (by decide), cs_i hg]
  · rw [cs_i hg, cs_c (by decide)]
  · rw [ms_n _ _ (by decide), ms_s, upd_n _ _ hg]
  · rw [ms_s, upd_n _ _ (by omega), ms_n _ _ (by decide)]
  · rw [cs_s, ms_s]
    by_cases w : t = x
    · rw [w, upd_s, upd_s]
    · rw [upd_n _ _ w, upd_n _ _ (by omega), cs_c (by decide), ms_n _ _ (by decide)]; exact hF.2.2.2 t ht
  · rw [cs_c (by decide), cs_s]
  · rw [ms_n _ _ (by decide), ms_s, upd_s]
  · refine (hall u hu ha).keep (fun w => ?_) (fun _ => by rw [ms_n _ _ (by decide), ms_n _ _ (by decide)])
    have : u ≠ x := fun q => by
      rw [q] at ha w
      rw [hxa w] at ha
      cases ha
    rw [ms_s, upd_n _ _ (by omega), ms_n _ _ (by decide)]
  · rw [cs_c (by decide), cs_c (by decide)]; exact hR.2.2.2.2.2.2.1
  · rw [ms_n _ _ (by decide), ms_n _ _ (by decide)]; exact hR.2.2.2.2.2.2.2.1
/-- a value out of a register -/
theorem js_v {S : CST} {Sm : MST} {f s m j c N h0 n p : Nat} {P : Nat → T5} {as : Nat → Bool} {val : Nat → Int32} {st : Nat → Nat} (h : StP S Sm f s m j c N h0 n p P as val st) {y : Nat} (hy : y < 15) : cv (cs S 222 f (fun _ => nI (p + 1))) 230 f y = (ms Sm 39 (upd (Sm 39) f (nI (p + 1)))) 42 (15 * f + y) := by
  rw [cs_c (by decide), ms_n _ _ (by decide)]
  exact h.2.2.2.2.1.2.2.2 y hy
theorem rgc {f x : Nat} (hf : f < 16) (hx : x < 15) : (nI (15 * f) + nI x : Int32).toNatClampNeg = 15 * f + x := by
  rw [nI_add, nI_clamp (by omega)]
theorem rgv {f x : Nat} (hf : f < 16) (hx : x < 15) : vp_in (nI (15 * f) + nI x) 240 := by
  rw [nI_add]
  exact vp_in_nI (by omega) (by omega)
theorem w649 {S : MST} {i : Int32} {Post : MST → Prop} (h : Post S) : wj_X12_goesByPart_649 S i 0 Post := ⟨fun _ => h, fun q => absurd rfl q⟩
theorem w649t {S : MST} {i no : Int32} {Post : MST → Prop} (hn : ¬ no = 0) (h : wp_X12_traps S no i Post) : wj_X12_goesByPart_649 S i no Post := ⟨fun q => absurd q hn, fun _ => h⟩
/-- a TRAP, in both -/
theorem js_trap {S : CST} {Sm : MST} {f s m j c N h0 n p : Nat} {P : Nat → T5} {as : Nat → Bool} {val : Nat → Int32} {st : Nat → Nat} (h : StP S Sm f s m j c N h0 n p P as val st) {K : CST → Prop} {o d a b i no : Int32} (hn : ¬ no = 0) (e : P p = (o, d, a, b, i)) (hK : ∀ S' : CST, TwR (wp_X12_goesByPart Sm) S' → K S') (hg : ∀ Post : MST → Prop, wj_X12_goesByPart_649 (ms Sm 39 (upd (Sm 39) f (nI (p + 1)))) i no Post → gpD Sm (ms Sm 39 (upd (Sm 39) f (nI (p + 1)))) (nI f) (nI (15 * f)) (nI (640 * (12 * m + j) + p)) o d a b i Post) : wp_X7_endByTrap (cs S 222 f (fun _ => nI (p + 1))) f no i K := by
  obtain ⟨hM8, hC, hR, hf, hF, h37, h40, hj, h221, hc, hx, h39, hp, h222, h43, hok⟩ := id h
  have hm := hF.1
  refine xr_trap hf (show m < cnP S from hF.1) (by omega) (by rw [cs_c (by decide)]; exact hF.2.1) (by rw [cs_c (by decide)]; exact (hR.1.1.1 m hF.1).2.1) (F := nI (f + 1)) (by rw [cs_c (by decide)]; exact hR.2.2.2.1) (fun S' t => hK S' (Or.inl (js_ref h e (hg _ (w649t hn (mr_traps (by rw [ms_n _ _ (by decide)]; exact h37) hf (by rw [ms_n _ _ (by decide)]; exact hF.2.2.1) (fun Sm1 tm => Or.inl (EnR.trap hR.1 hR.2.1 hR.2.2.1 (Ex.cs (by decide) Ex.rf) (Fm.put rfl rfl Fm.rf) t tm))))))))
