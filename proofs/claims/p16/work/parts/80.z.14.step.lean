/-! BOTH: what a step leaves -/
def OutR (S : CST) (Sm : MST) : Prop := EnR S Sm ∨ ∃ F s : Nat, F ≤ 16 ∧ Sm 37 0 = nI F ∧ Sm 43 0 = 0 ∧ RnR S Sm F s
/-- one step of the reference, none, one or two turns of the class -/
def ResR (S : CST) (R : (MST → Prop) → Prop) : Prop := R (fun Sm1 => OutR S Sm1) ∨ wp_X7_turn S (fun S1 => R (fun Sm1 => OutR S1 Sm1) ∨ (cv S1 127 0 0 = 4 ∧ ¬ cv S1 128 0 0 = -1 ∧ wp_X7_begin S1 (fun S2 => wp_X7_choosePath S2 (fun S3 => R (fun Sm1 => OutR S3 Sm1)))))
theorem mono_begin {S : CST} {P Q : CST → Prop} (h : wp_X7_begin S P) (hq : ∀ S' : CST, P S' → Q S') : wp_X7_begin S Q := an_X7_begin h h (fun S' _ p _ => hq S' p)
theorem mono_choosePath {S : CST} {P Q : CST → Prop} (h : wp_X7_choosePath S P) (hq : ∀ S' : CST, P S' → Q S') : wp_X7_choosePath S Q := an_X7_choosePath h h (fun S' _ p _ => hq S' p)
theorem EnR.trap {S S35 S1 : CST} {Sm Sm23 Sm1 : MST} {no m i F : Int32} (h1 : MeR S Sm) (h2 : DaR S Sm) (h3 : TaR S Sm) (e : Ex [222] S S35) (em : Fm [39, 41, 42] Sm Sm23) (t : TrC S35 S1 no m i F) (tm : TrM Sm23 Sm1 no m i F) : EnR S1 Sm1 := by
  obtain ⟨te, t127, q0, q1, q2, q3⟩ := t
  obtain ⟨tme, t43, r0, r1, r2, r3⟩ := tm
  have e' : Ex [127, 210, 222] S S1 := Ex.step te (by decide) (Ex.step e (by decide) Ex.rf)
  have em' : Fm [39, 41, 42, 43, 50] Sm Sm1 := Fm.step tme (by decide) (Fm.step em (by decide) Fm.rf)
  obtain ⟨t1, t2, t3, t4, t5, t6, t7⟩ := h3
  refine ⟨⟨h1.ex e' rfl em' rfl, h2.same (e'.2 40 rfl) (e'.2 50 rfl) (e'.2 60 rfl) (em' 12 rfl) (em' 13 rfl) (em' 14 rfl), by rw [e'.2 200 rfl, em' 48 rfl]; exact t1, by rw [em' 48 rfl]; exact t2, by rw [e'.2 202 rfl, em' 45 rfl]; exact t3, by rw [e'.2 203 rfl, em' 46 rfl]; exact t4, by rw [e'.2 204 rfl, em' 47 rfl]; exact t5, by rw [e'.2 205 rfl, em' 49 rfl]; exact t6, fun t ht => ?_⟩, Or.inl ⟨t43, t127⟩⟩
  rcases (show t = 0 ∨ t = 1 ∨ t = 2 ∨ t = 3 by omega) with rfl | rfl | rfl | rfl
  · rw [q0, r0]
  · rw [q1, r1]
  · rw [q2, r2]
  · rw [q3, r3]
theorem xr_isThere {S : CST} {f r : Nat} {a i : Int32} {Post : CST → Int32 → Prop} (hr : r < 4) (h2 : cv S 50 0 r = -1 → wp_X7_endByTrap S f 2 i (fun S' => Post S' 0)) (h3 : ∀ n : Nat, n ≤ 20 → cv S 50 0 r = nI n → (∀ x : Nat, x < n → ¬ a = nI x) → wp_X7_endByTrap S f 3 i (fun S' => Post S' 0)) (h : ∀ x n : Nat, x < n → n ≤ 20 → cv S 50 0 r = nI n → a = nI x → Post S 1) (hl : cv S 50 0 r = -1 ∨ ∃ n : Nat, n ≤ 20 ∧ cv S 50 0 r = nI n) : wp_X7_isThere S f (nI r) a i Post := by
  unfold wp_X7_isThere
  refine xr_lengthOf hr ⟨fun cn => ⟨fun c0 => ?_, fun c0 => xr_lengthOf hr ⟨fun c1 => ?_, fun c1 => ?_⟩⟩, fun ce => h2 ce⟩
  · obtain ⟨n, hn, e⟩ := hl.resolve_left cn
    exact h3 n hn e (fun x hx w => nI_nn x (by omega) (by rw [← w]; exact c0))
  · obtain ⟨n, hn, e⟩ := hl.resolve_left cn
    obtain ⟨x, rfl, hx⟩ := nI_ofc c0
    rw [e] at c1
    have hxn : x < n := Nat.not_le.mp (fun q => absurd c1 (Int32.not_lt.mpr (nI_le q (by omega))))
    exact h x n hxn hn e rfl
  · obtain ⟨n, hn, e⟩ := hl.resolve_left cn
    refine h3 n hn e (fun x hx w => c1 ?_)
    rw [e, w]
    exact Int32.not_le.mp (nI_ge hx (by omega))
/-- FIELDS and ROWS behind a step -/
theorem DaR.field {S S' : CST} {Sm Sm' : MST} {q : Nat} {v : Int32} (h : DaR S Sm) (hq : q < 8) (e40 : cv S' 40 0 = upd (cv S 40 0) q v) (e50 : cv S' 50 = cv S 50) (e60 : cv S' 60 = cv S 60) (e12 : Sm' 12 = upd (Sm 12) q v) (e13 : Sm' 13 = Sm 13) (e14 : Sm' 14 = Sm 14) : DaR S' Sm' := by
  unfold DaR at h ⊢
  rw [e50, e60, e13, e14, e40, e12]
  refine ⟨fun f hf => ?_, h.2⟩
  by_cases w : f = q
  · rw [w, upd_s, upd_s]
  · rw [upd_n _ _ w, upd_n _ _ w]; exact h.1 f hf
theorem DaR.item {S S' : CST} {Sm Sm' : MST} {q : Nat} {v : Int32} (h : DaR S Sm) (e40 : cv S' 40 = cv S 40) (e50 : cv S' 50 = cv S 50) (e60 : cv S' 60 0 = upd (cv S 60 0) q v) (e12 : Sm' 12 = Sm 12) (e13 : Sm' 13 = Sm 13) (e14 : Sm' 14 = upd (Sm 14) q v) : DaR S' Sm' := by
  unfold DaR at h ⊢
  rw [e40, e50, e13, e14, e60, e12]
  refine ⟨h.1, fun r hr => ⟨(h.2 r hr).1, fun n i hn hn2 hi => ?_⟩⟩
  by_cases w : 20 * r + i = q
  · rw [w, upd_s, upd_s]
  · rw [upd_n _ _ w, upd_n _ _ w]; exact (h.2 r hr).2 n i hn hn2 hi
theorem DaR.row {S S' : CST} {Sm Sm' : MST} {r n : Nat} (h : DaR S Sm) (hr : r < 4) (hn : n ≤ 20) (e40 : cv S' 40 = cv S 40) (e50 : cv S' 50 0 = upd (cv S 50 0) r (nI n)) (e60 : ∀ t : Nat, t < 80 → cv S' 60 0 t = if 20 * r ≤ t ∧ t < 20 * r + 20 then 0 else cv S 60 0 t) (e12 : Sm' 12 = Sm 12) (e13 : Sm' 13 = upd (Sm 13) r (nI n)) (e14 : ∀ t : Nat, Sm' 14 t = if 20 * r ≤ t ∧ t < 20 * r + n then 0 else Sm 14 t) : DaR S' Sm' := by
  unfold DaR at h ⊢
  rw [e40, e50, e13, e12]
  refine ⟨h.1, fun r' hr' => ?_⟩
  by_cases w : r' = r
  · rw [w, upd_s, upd_s]
    refine ⟨rfl, fun n' i hn' hn2 hi => ?_⟩
    obtain rfl : n' = n := nI_inj hn'.symm (by omega) (by omega)
    rw [e60 _ (by omega), e14, if_pos (by omega), if_pos (by omega)]
  · rw [upd_n _ _ w, upd_n _ _ w]
    refine ⟨(h.2 r' hr').1, fun n' i hn' hn2 hi => ?_⟩
    rw [e60 _ (by omega), e14, if_neg (by omega), if_neg (by omega)]
    exact (h.2 r' hr').2 n' i hn' hn2 hi
/-- a lost ROW, or one of n ints -/
theorem DaR.len {S : CST} {Sm : MST} {r : Nat} (h : DaR S Sm) (hR : rowN Sm) (hr : r < 4) : cv S 50 0 r = -1 ∨ ∃ n : Nat, n ≤ 20 ∧ cv S 50 0 r = nI n := by
  rw [(h.2 r hr).1]
  exact hR r hr
