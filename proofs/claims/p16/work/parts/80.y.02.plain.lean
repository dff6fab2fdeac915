/-! THE CLASS, exactly: the draft; the plain PARTS -/
/-- a PART more in the draft: the N-th -/
def AdC (S S' : CST) (N : Nat) (a1 a2 a3 a4 a5 : Int32) : Prop := Ex [72, 80] S S' ∧ cv S' 72 0 0 = nI (N + 1) ∧ (∀ j : Nat, j < 5 * N → cv S' 80 0 j = cv S 80 0 j) ∧ cv S' 80 0 (5 * N) = a1 ∧ cv S' 80 0 (5 * N + 1) = a2 ∧ cv S' 80 0 (5 * N + 2) = a3 ∧ cv S' 80 0 (5 * N + 3) = a4 ∧ cv S' 80 0 (5 * N + 4) = a5
theorem xp_X3_add {S : CST} {N : Nat} {a1 a2 a3 a4 a5 : Int32} {Post : CST → Prop} (hn : cv S 72 0 0 = nI N) (hN : N < 1511) (h : ∀ S' : CST, AdC S S' N a1 a2 a3 a4 a5 → Post S') : wp_X3_add S a1 a2 a3 a4 a5 Post := by
  unfold wp_X3_add
  rw [hn, nI5]
  have e1 : nI (5 * N) + 1 = nI (5 * N + 1) := nI_1 _
  have e2 : nI (5 * N) + 2 = nI (5 * N + 2) := nI_add _ 2
  have e3 : nI (5 * N) + 3 = nI (5 * N + 3) := nI_add _ 3
  have e4 : nI (5 * N) + 4 = nI (5 * N + 4) := nI_add _ 4
  have e5 : nI (5 * N) + 5 = nI (5 * N + 5) := nI_add _ 5
  rw [e1, e2, e3, e4, e5]
  refine ⟨fun c => absurd c (Int32.not_lt.mpr (nI_pos' (by omega))), fun _ => ⟨fun _ => ?_, fun c => absurd (nI_le (a := 5 * N + 5) (b := 7555) (by omega) (by omega)) c⟩⟩
  rw [nI_clamp (n := 5 * N) (by omega), nI_clamp (n := 5 * N + 1) (by omega), nI_clamp (n := 5 * N + 2) (by omega), nI_clamp (n := 5 * N + 3) (by omega), nI_clamp (n := 5 * N + 4) (by omega)]
  refine ⟨vp_in_nI (by omega) (by omega), fun S8 e8 => ⟨vp_in_nI (by omega) (by omega), fun S11 e11 => ⟨vp_in_nI (by omega) (by omega), fun S14 e14 => ⟨vp_in_nI (by omega) (by omega), fun S17 e17 => ⟨vp_in_nI (by omega) (by omega), fun S20 e20 S23 e23 => h S23 ?_⟩⟩⟩⟩⟩
  have v8 : cv S8 80 0 = upd (cv S 80 0) (5 * N) a1 := by rw [e8, cs_s]
  have v11 : cv S11 80 0 = upd (cv S8 80 0) (5 * N + 1) a2 := by rw [e11, cs_s]
  have v14 : cv S14 80 0 = upd (cv S11 80 0) (5 * N + 2) a3 := by rw [e14, cs_s]
  have v17 : cv S17 80 0 = upd (cv S14 80 0) (5 * N + 3) a4 := by rw [e17, cs_s]
  have v20 : cv S20 80 0 = upd (cv S17 80 0) (5 * N + 4) a5 := by rw [e20, cs_s]
  have v23 : cv S23 80 0 = cv S20 80 0 := by rw [e23]; exact cs_n _ _ (fun w => absurd w.1 (by decide))
  have n20 : cv S20 72 0 0 = nI N := by rw [e20, cs_n _ _ (fun w => absurd w.1 (by decide)), e17, cs_n _ _ (fun w => absurd w.1 (by decide)), e14, cs_n _ _ (fun w => absurd w.1 (by decide)), e11, cs_n _ _ (fun w => absurd w.1 (by decide)), e8, cs_n _ _ (fun w => absurd w.1 (by decide))]; exact hn
  refine ⟨by rw [e23, e20, e17, e14, e11, e8]; exact Ex.cs (by decide) (Ex.cs (by decide) (Ex.cs (by decide) (Ex.cs (by decide) (Ex.cs (by decide) (Ex.cs (by decide) Ex.rf))))), by rw [e23, cs_s]; show cv S20 72 0 0 + 1 = nI (N + 1); rw [n20, nI_1], fun j hj => ?_, ?_, ?_, ?_, ?_, ?_⟩
  · rw [v23, v20, upd_n _ _ (by omega), v17, upd_n _ _ (by omega), v14, upd_n _ _ (by omega), v11, upd_n _ _ (by omega), v8, upd_n _ _ (by omega)]
  · rw [v23, v20, upd_n _ _ (by omega), v17, upd_n _ _ (by omega), v14, upd_n _ _ (by omega), v11, upd_n _ _ (by omega), v8, upd_s]
  · rw [v23, v20, upd_n _ _ (by omega), v17, upd_n _ _ (by omega), v14, upd_n _ _ (by omega), v11, upd_s]
  · rw [v23, v20, upd_n _ _ (by omega), v17, upd_n _ _ (by omega), v14, upd_s]
  · rw [v23, v20, upd_n _ _ (by omega), v17, upd_s]
  · rw [v23, v20, upd_s]
theorem xp_X3_begin {S : CST} {i : Nat} {Post : CST → Prop} (hi : i < 60) (h : Post (cs S 90 0 (upd (cv S 90 0) i (cv S 72 0 0)))) : wp_X3_begin S (nI i) Post := by
  unfold wp_X3_begin
  refine ⟨fun q => absurd q (nI_nn i (by omega)), fun _ => ⟨fun q => absurd q (nI_ge (b := 60) (by omega) (by omega)), fun _ => ⟨vp_in_nI hi (by omega), ?_⟩⟩⟩
  rw [nI_clamp (by omega)]
  rintro _ rfl
  exact h
/-- the PART that an INSTRUCTION is when nothing is KNOWN: op, X, depth, depth at the next one -/
def tpl (o : Nat) (x D Dn : Int32) : Int32 × Int32 × Int32 × Int32 :=
  if o = 0 then (0, 7 + D, x, 0) else if o = 1 then (1, 7 + D, x, 0) else if o = 2 then (1, x, 7 + D - 1, 0) else if o = 9 then (8, x, 0, 0) else if o = 10 then (9, x, 7 + D - 1, 0) else if o = 11 then (10, 7 + Dn - 1, x, 0) else
  if o = 12 then (11, 0, 7 + D - 1, 0) else if o = 13 then (12, 7 + D, x, 0) else if o = 14 then (13, x, 7 + D - 1, 0) else if o = 15 then (14, x, 7 + D - 1, 0) else if o = 16 then (15, 7 + D - 1, x, 7 + D - 1) else if o = 17 then (16, x, 7 + D - 2, 7 + D - 1) else if o = 18 then (1, 7 + D, 7 + D - 1, 0) else (nI o - 3 + 2, 7 + D - 2, 7 + D - 2, 7 + D - 1)
/-- the same in the draft -/
def AdT (S S' : CST) (N : Nat) (t : Int32 × Int32 × Int32 × Int32) (i : Int32) : Prop := AdC S S' N t.1 t.2.1 t.2.2.1 t.2.2.2 i
theorem xp_X3_addReckoning {S : CST} {o N : Nat} {x D Dn i : Int32} {Post : CST → Prop} (ho : o < 20) (hR : (3 ≤ o ∧ o ≤ 8) ∨ (13 ≤ o ∧ o ≤ 17)) (hn : cv S 72 0 0 = nI N) (hN : N < 1511) (h : ∀ S' : CST, AdT S S' N (tpl o x D Dn) i → Post S') : wp_X3_addReckoning S (nI o) x (7 + D) i Post := by
  unfold wp_X3_addReckoning
  rcases z20 ho with rfl | rfl | rfl | rfl | rfl | rfl | rfl | rfl | rfl | rfl | rfl | rfl | rfl | rfl | rfl | rfl | rfl | rfl | rfl | rfl <;> first
    | (exfalso; omega)
    | exact ⟨fun c => by first | exact absurd c (by decide) | exact xp_X3_add hn hN h, fun c => by first | exact absurd c (by decide) | exact xp_X3_add hn hN h, fun c => by first | exact absurd c (by decide) | exact xp_X3_add hn hN h, fun c => by first | exact absurd c (by decide) | exact xp_X3_add hn hN h, fun c => by first | exact absurd c (by decide) | exact xp_X3_add hn hN h, fun c => by first | exact absurd c (by decide) | exact xp_X3_add hn hN h⟩
theorem xp_X3_addTemplate {S : CST} {y n i o N : Nat} {x D Dn : Int32} {Post : CST → Prop} (hy : y < cnP S) (hl : cv S 247 y 0 = nI n) (hn60 : n ≤ 60) (hi : i < n) (ho : o < 20) (hop : cv S 250 y i = nI o) (hx : cv S 260 y i = x) (hD : cv S 270 y i = D) (hDn : o = 11 → i + 1 < n ∧ cv S 270 y (i + 1) = Dn) (hn : cv S 72 0 0 = nI N) (hN : N < 1511)
    (h : ¬ o = 19 → ∀ S' : CST, AdT S S' N (tpl o x D Dn) (nI i) → Post S') (h19 : o = 19 → Post S) : wp_X3_addTemplate S y (nI i) Post := by
  have c24 : cin S 24 y := cin_24 rfl hy
  unfold wp_X3_addTemplate
  refine ⟨c24, xp_X8_opAt hy hl hn60 hi ⟨c24, xp_X8_xAt hy hl hn60 hi ⟨c24, xp_X8_depthAt hy hl hn60 hi ?_⟩⟩⟩
  rw [hop, hx, hD, nI_1]
  rcases z20 ho with rfl | rfl | rfl | rfl | rfl | rfl | rfl | rfl | rfl | rfl | rfl | rfl | rfl | rfl | rfl | rfl | rfl | rfl | rfl | rfl
  · exact ⟨fun c => absurd c (by decide), fun _ => xp_X3_add hn hN (h (by decide)), fun c => absurd c (by decide), fun c => absurd c (by decide), fun c => absurd c (by decide), fun c => absurd c (by decide), fun c => absurd c (by decide), fun c => absurd c (by decide), fun c => absurd c (by decide), fun c => absurd c (by decide), fun c => absurd c (by decide), fun c => absurd c (by decide), fun c => absurd c (by decide), fun c => absurd c (by decide), fun c => absurd c (by decide), fun c => absurd c (by decide), fun c => absurd c (by decide), fun c => absurd c (by decide), fun c => absurd c (by decide), fun c => absurd c (by decide), fun c => absurd c (by decide)⟩
  · exact ⟨fun c => absurd c (by decide), fun c => absurd c (by decide), fun _ => xp_X3_add hn hN (h (by decide)), fun c => absurd c (by decide), fun c => absurd c (by decide), fun c => absurd c (by decide), fun c => absurd c (by decide), fun c => absurd c (by decide), fun c => absurd c (by decide), fun c => absurd c (by decide), fun c => absurd c (by decide), fun c => absurd c (by decide), fun c => absurd c (by decide), fun c => absurd c (by decide), fun c => absurd c (by decide), fun c => absurd c (by decide), fun c => absurd c (by decide), fun c => absurd c (by decide), fun c => absurd c (by decide), fun c => absurd c (by decide), fun c => absurd c (by decide)⟩
  · exact ⟨fun c => absurd c (by decide), fun c => absurd c (by decide), fun c => absurd c (by decide), fun _ => xp_X3_add hn hN (h (by decide)), fun c => absurd c (by decide), fun c => absurd c (by decide), fun c => absurd c (by decide), fun c => absurd c (by decide), fun c => absurd c (by decide), fun c => absurd c (by decide), fun c => absurd c (by decide), fun c => absurd c (by decide), fun c => absurd c (by decide), fun c => absurd c (by decide), fun c => absurd c (by decide), fun c => absurd c (by decide), fun c => absurd c (by decide), fun c => absurd c (by decide), fun c => absurd c (by decide), fun c => absurd c (by decide), fun c => absurd c (by decide)⟩
  · exact ⟨fun c => absurd c (by decide), fun c => absurd c (by decide), fun c => absurd c (by decide), fun c => absurd c (by decide), fun _ => xp_X3_addReckoning (Dn := Dn) (by omega) (by omega) hn hN (h (by decide)), fun c => absurd c (by decide), fun c => absurd c (by decide), fun c => absurd c (by decide), fun c => absurd c (by decide), fun c => absurd c (by decide), fun c => absurd c (by decide), fun c => absurd c (by decide), fun c => absurd c (by decide), fun c => absurd c (by decide), fun c => absurd c (by decide), fun c => absurd c (by decide), fun c => absurd c (by decide), fun c => absurd c (by decide), fun c => absurd c (by decide), fun c => absurd c (by decide), fun c => absurd c (by decide)⟩
  · exact ⟨fun c => absurd c (by decide), fun c => absurd c (by decide), fun c => absurd c (by decide), fun c => absurd c (by decide), fun c => absurd c (by decide), fun _ => xp_X3_addReckoning (Dn := Dn) (by omega) (by omega) hn hN (h (by decide)), fun c => absurd c (by decide), fun c => absurd c (by decide), fun c => absurd c (by decide), fun c => absurd c (by decide), fun c => absurd c (by decide), fun c => absurd c (by decide), fun c => absurd c (by decide), fun c => absurd c (by decide), fun c => absurd c (by decide), fun c => absurd c (by decide), fun c => absurd c (by decide), fun c => absurd c (by decide), fun c => absurd c (by decide), fun c => absurd c (by decide), fun c => absurd c (by decide)⟩
  · exact ⟨fun c => absurd c (by decide), fun c => absurd c (by decide), fun c => absurd c (by decide), fun c => absurd c (by decide), fun c => absurd c (by decide), fun c => absurd c (by decide), fun _ => xp_X3_addReckoning (Dn := Dn) (by omega) (by omega) hn hN (h (by decide)), fun c => absurd c (by decide), fun c => absurd c (by decide), fun c => absurd c (by decide), fun c => absurd c (by decide), fun c => absurd c (by decide), fun c => absurd c (by decide), fun c => absurd c (by decide), fun c => absurd c (by decide), fun c => absurd c (by decide), fun c => absurd c (by decide), fun c => absurd c (by decide), fun c => absurd c (by decide), fun c => absurd c (by decide), fun c => absurd c (by decide)⟩
  · exact ⟨fun c => absurd c (by decide), fun c => absurd c (by decide), fun c => absurd c (by decide), fun c => absurd c (by decide), fun c => absurd c (by decide), fun c => absurd c (by decide), fun c => absurd c (by decide), fun _ => xp_X3_addReckoning (Dn := Dn) (by omega) (by omega) hn hN (h (by decide)), fun c => absurd c (by decide), fun c => absurd c (by decide), fun c => absurd c (by decide), fun c => absurd c (by decide), fun c => absurd c (by decide), fun c => absurd c (by decide), fun c => absurd c (by decide), fun c => absurd c (by decide), fun c => absurd c (by decide), fun c => absurd c (by decide), fun c => absurd c (by decide), fun c => absurd c (by decide), fun c => absurd c (by decide)⟩
  · exact ⟨fun c => absurd c (by decide), fun c => absurd c (by decide), fun c => absurd c (by decide), fun c => absurd c (by decide), fun c => absurd c (by decide), fun c => absurd c (by decide), fun c => absurd c (by decide), fun c => absurd c (by decide), fun _ => xp_X3_addReckoning (Dn := Dn) (by omega) (by omega) hn hN (h (by decide)), fun c => absurd c (by decide), fun c => absurd c (by decide), fun c => absurd c (by decide), fun c => absurd c (by decide), fun c => absurd c (by decide), fun c => absurd c (by decide), fun c => absurd c (by decide), fun c => absurd c (by decide), fun c => absurd c (by decide), fun c => absurd c (by decide), fun c => absurd c (by decide), fun c => absurd c (by decide)⟩
  · exact ⟨fun c => absurd c (by decide), fun c => absurd c (by decide), fun c => absurd c (by decide), fun c => absurd c (by decide), fun c => absurd c (by decide), fun c => absurd c (by decide), fun c => absurd c (by decide), fun c => absurd c (by decide), fun c => absurd c (by decide), fun _ => xp_X3_addReckoning (Dn := Dn) (by omega) (by omega) hn hN (h (by decide)), fun c => absurd c (by decide), fun c => absurd c (by decide), fun c => absurd c (by decide), fun c => absurd c (by decide), fun c => absurd c (by decide), fun c => absurd c (by decide), fun c => absurd c (by decide), fun c => absurd c (by decide), fun c => absurd c (by decide), fun c => absurd c (by decide), fun c => absurd c (by decide)⟩
  · exact ⟨fun c => absurd c (by decide), fun c => absurd c (by decide), fun c => absurd c (by decide), fun c => absurd c (by decide), fun c => absurd c (by decide), fun c => absurd c (by decide), fun c => absurd c (by decide), fun c => absurd c (by decide), fun c => absurd c (by decide), fun c => absurd c (by decide), fun _ => xp_X3_add hn hN (h (by decide)), fun c => absurd c (by decide), fun c => absurd c (by decide), fun c => absurd c (by decide), fun c => absurd c (by decide), fun c => absurd c (by decide), fun c => absurd c (by decide), fun c => absurd c (by decide), fun c => absurd c (by decide), fun c => absurd c (by decide), fun c => absurd c (by decide)⟩
  · exact ⟨fun c => absurd c (by decide), fun c => absurd c (by decide), fun c => absurd c (by decide), fun c => absurd c (by decide), fun c => absurd c (by decide), fun c => absurd c (by decide), fun c => absurd c (by decide), fun c => absurd c (by decide), fun c => absurd c (by decide), fun c => absurd c (by decide), fun c => absurd c (by decide), fun _ => xp_X3_add hn hN (h (by decide)), fun c => absurd c (by decide), fun c => absurd c (by decide), fun c => absurd c (by decide), fun c => absurd c (by decide), fun c => absurd c (by decide), fun c => absurd c (by decide), fun c => absurd c (by decide), fun c => absurd c (by decide), fun c => absurd c (by decide)⟩
  · exact ⟨fun c => absurd c (by decide), fun c => absurd c (by decide), fun c => absurd c (by decide), fun c => absurd c (by decide), fun c => absurd c (by decide), fun c => absurd c (by decide), fun c => absurd c (by decide), fun c => absurd c (by decide), fun c => absurd c (by decide), fun c => absurd c (by decide), fun c => absurd c (by decide), fun c => absurd c (by decide), fun _ => ⟨c24, xp_X8_depthAt hy hl hn60 (hDn rfl).1 (by rw [(hDn rfl).2]; exact xp_X3_add hn hN (h (by decide)))⟩, fun c => absurd c (by decide), fun c => absurd c (by decide), fun c => absurd c (by decide), fun c => absurd c (by decide), fun c => absurd c (by decide), fun c => absurd c (by decide), fun c => absurd c (by decide), fun c => absurd c (by decide)⟩
  · exact ⟨fun c => absurd c (by decide), fun c => absurd c (by decide), fun c => absurd c (by decide), fun c => absurd c (by decide), fun c => absurd c (by decide), fun c => absurd c (by decide), fun c => absurd c (by decide), fun c => absurd c (by decide), fun c => absurd c (by decide), fun c => absurd c (by decide), fun c => absurd c (by decide), fun c => absurd c (by decide), fun c => absurd c (by decide), fun _ => xp_X3_add hn hN (h (by decide)), fun c => absurd c (by decide), fun c => absurd c (by decide), fun c => absurd c (by decide), fun c => absurd c (by decide), fun c => absurd c (by decide), fun c => absurd c (by decide), fun c => absurd c (by decide)⟩
  · exact ⟨fun c => absurd c (by decide), fun c => absurd c (by decide), fun c => absurd c (by decide), fun c => absurd c (by decide), fun c => absurd c (by decide), fun c => absurd c (by decide), fun c => absurd c (by decide), fun c => absurd c (by decide), fun c => absurd c (by decide), fun c => absurd c (by decide), fun c => absurd c (by decide), fun c => absurd c (by decide), fun c => absurd c (by decide), fun c => absurd c (by decide), fun _ => xp_X3_addReckoning (Dn := Dn) (by omega) (by omega) hn hN (h (by decide)), fun c => absurd c (by decide), fun c => absurd c (by decide), fun c => absurd c (by decide), fun c => absurd c (by decide), fun c => absurd c (by decide), fun c => absurd c (by decide)⟩
  · exact ⟨fun c => absurd c (by decide), fun c => absurd c (by decide), fun c => absurd c (by decide), fun c => absurd c (by decide), fun c => absurd c (by decide), fun c => absurd c (by decide), fun c => absurd c (by decide), fun c => absurd c (by decide), fun c => absurd c (by decide), fun c => absurd c (by decide), fun c => absurd c (by decide), fun c => absurd c (by decide), fun c => absurd c (by decide), fun c => absurd c (by decide), fun c => absurd c (by decide), fun _ => xp_X3_addReckoning (Dn := Dn) (by omega) (by omega) hn hN (h (by decide)), fun c => absurd c (by decide), fun c => absurd c (by decide), fun c => absurd c (by decide), fun c => absurd c (by decide), fun c => absurd c (by decide)⟩
  · exact ⟨fun c => absurd c (by decide), fun c => absurd c (by decide), fun c => absurd c (by decide), fun c => absurd c (by decide), fun c => absurd c (by decide), fun c => absurd c (by decide), fun c => absurd c (by decide), fun c => absurd c (by decide), fun c => absurd c (by decide), fun c => absurd c (by decide), fun c => absurd c (by decide), fun c => absurd c (by decide), fun c => absurd c (by decide), fun c => absurd c (by decide), fun c => absurd c (by decide), fun c => absurd c (by decide), fun _ => xp_X3_addReckoning (Dn := Dn) (by omega) (by omega) hn hN (h (by decide)), fun c => absurd c (by decide), fun c => absurd c (by decide), fun c => absurd c (by decide), fun c => absurd c (by decide)⟩
  · exact ⟨fun c => absurd c (by decide), fun c => absurd c (by decide), fun c => absurd c (by decide), fun c => absurd c (by decide), fun c => absurd c (by decide), fun c => absurd c (by decide), fun c => absurd c (by decide), fun c => absurd c (by decide), fun c => absurd c (by decide), fun c => absurd c (by decide), fun c => absurd c (by decide), fun c => absurd c (by decide), fun c => absurd c (by decide), fun c => absurd c (by decide), fun c => absurd c (by decide), fun c => absurd c (by decide), fun c => absurd c (by decide), fun _ => xp_X3_addReckoning (Dn := Dn) (by omega) (by omega) hn hN (h (by decide)), fun c => absurd c (by decide), fun c => absurd c (by decide), fun c => absurd c (by decide)⟩
  · exact ⟨fun c => absurd c (by decide), fun c => absurd c (by decide), fun c => absurd c (by decide), fun c => absurd c (by decide), fun c => absurd c (by decide), fun c => absurd c (by decide), fun c => absurd c (by decide), fun c => absurd c (by decide), fun c => absurd c (by decide), fun c => absurd c (by decide), fun c => absurd c (by decide), fun c => absurd c (by decide), fun c => absurd c (by decide), fun c => absurd c (by decide), fun c => absurd c (by decide), fun c => absurd c (by decide), fun c => absurd c (by decide), fun c => absurd c (by decide), fun _ => xp_X3_addReckoning (Dn := Dn) (by omega) (by omega) hn hN (h (by decide)), fun c => absurd c (by decide), fun c => absurd c (by decide)⟩
  · exact ⟨fun c => absurd c (by decide), fun c => absurd c (by decide), fun c => absurd c (by decide), fun c => absurd c (by decide), fun c => absurd c (by decide), fun c => absurd c (by decide), fun c => absurd c (by decide), fun c => absurd c (by decide), fun c => absurd c (by decide), fun c => absurd c (by decide), fun c => absurd c (by decide), fun c => absurd c (by decide), fun c => absurd c (by decide), fun c => absurd c (by decide), fun c => absurd c (by decide), fun c => absurd c (by decide), fun c => absurd c (by decide), fun c => absurd c (by decide), fun c => absurd c (by decide), fun _ => xp_X3_add hn hN (h (by decide)), fun c => absurd c (by decide)⟩
  · exact ⟨fun c => absurd c (by decide), fun c => absurd c (by decide), fun c => absurd c (by decide), fun c => absurd c (by decide), fun c => absurd c (by decide), fun c => absurd c (by decide), fun c => absurd c (by decide), fun c => absurd c (by decide), fun c => absurd c (by decide), fun c => absurd c (by decide), fun c => absurd c (by decide), fun c => absurd c (by decide), fun c => absurd c (by decide), fun c => absurd c (by decide), fun c => absurd c (by decide), fun c => absurd c (by decide), fun c => absurd c (by decide), fun c => absurd c (by decide), fun c => absurd c (by decide), fun c => absurd c (by decide), fun _ => h19 rfl⟩
/-- how many PARTS go ahead of INSTRUCTION i among the plain ones -/
def posN (L : Nat → Bool) : Nat → Nat
  | 0 => 0
  | i + 1 => posN L i + (if L i = true then 1 else 0)
theorem posN_le (L : Nat → Bool) : ∀ i : Nat, posN L i ≤ i := by
  intro i
  induction i with
  | zero => exact Nat.le_refl _
  | succ i ih =>
    show posN L i + (if L i = true then 1 else 0) ≤ i + 1
    split <;> omega
theorem posN_mono {L : Nat → Bool} {i : Nat} : ∀ k : Nat, posN L i ≤ posN L (i + k) := by
  intro k
  induction k with
  | zero => exact Nat.le_refl _
  | succ k ih => exact Nat.le_trans ih (Nat.le_add_right _ _)
theorem posN_lt {L : Nat → Bool} {i j : Nat} (hij : i < j) (hL : L i = true) : posN L i < posN L j := by
  obtain ⟨k, rfl⟩ : ∃ k : Nat, j = i + 1 + k := ⟨j - (i + 1), by omega⟩
  have h1 := posN_mono (L := L) (i := i + 1) k
  have h2 : posN L (i + 1) = posN L i + 1 := by show posN L i + (if L i = true then 1 else 0) = _; rw [if_pos hL]
  omega
/-- INSTRUCTION i has a plain PART -/
def lvC (S : CST) (y i : Nat) : Bool := decide (¬ cv S 270 y i = -1 ∧ ¬ cv S 250 y i = 19)
/-- code c is the plain PARTS of METHOD y -/
def PlC (S : CST) (y c n : Nat) : Prop := cv S 320 c 0 = 0 ∧ cv S 321 c 0 = 0 ∧ cv S 349 c 0 = nI n ∧ cv S 339 c 0 = nI (5 * posN (lvC S y) n) ∧ (∀ i : Nat, i < n → cv S 340 c i = nI (posN (lvC S y) i)) ∧
  ∀ i o : Nat, i < n → lvC S y i = true → cv S 250 y i = nI o → o < 20 → cv S 330 c (5 * posN (lvC S y) i) = (tpl o (cv S 260 y i) (cv S 270 y i) (cv S 270 y (i + 1))).1 ∧ cv S 330 c (5 * posN (lvC S y) i + 1) = (tpl o (cv S 260 y i) (cv S 270 y i) (cv S 270 y (i + 1))).2.1 ∧ cv S 330 c (5 * posN (lvC S y) i + 2) = (tpl o (cv S 260 y i) (cv S 270 y i) (cv S 270 y (i + 1))).2.2.1 ∧ cv S 330 c (5 * posN (lvC S y) i + 3) = (tpl o (cv S 260 y i) (cv S 270 y i) (cv S 270 y (i + 1))).2.2.2 ∧ cv S 330 c (5 * posN (lvC S y) i + 4) = nI i
/-- the draft in the midst of the plain PARTS, ahead of INSTRUCTION j -/
def DrP (S0 S : CST) (y j : Nat) : Prop := Ex [72, 80, 90] S0 S ∧ cv S 72 0 0 = nI (posN (lvC S0 y) j) ∧ (∀ i : Nat, i < j → cv S 90 0 i = nI (posN (lvC S0 y) i)) ∧
  ∀ i o : Nat, i < j → lvC S0 y i = true → cv S0 250 y i = nI o → o < 20 → cv S 80 0 (5 * posN (lvC S0 y) i) = (tpl o (cv S0 260 y i) (cv S0 270 y i) (cv S0 270 y (i + 1))).1 ∧ cv S 80 0 (5 * posN (lvC S0 y) i + 1) = (tpl o (cv S0 260 y i) (cv S0 270 y i) (cv S0 270 y (i + 1))).2.1 ∧ cv S 80 0 (5 * posN (lvC S0 y) i + 2) = (tpl o (cv S0 260 y i) (cv S0 270 y i) (cv S0 270 y (i + 1))).2.2.1 ∧ cv S 80 0 (5 * posN (lvC S0 y) i + 3) = (tpl o (cv S0 260 y i) (cv S0 270 y i) (cv S0 270 y (i + 1))).2.2.2 ∧ cv S 80 0 (5 * posN (lvC S0 y) i + 4) = nI i
theorem xp_plain_9 {S0 : CST} {y n : Nat} {K : CST → Nat → Prop} {Post : CST → Nat → Prop} (hy : y < cnP S0) (hl : cv S0 247 y 0 = nI n) (hn60 : n ≤ 60) (hops : ∀ i : Nat, i < n → ∃ o : Nat, o < 20 ∧ cv S0 250 y i = nI o ∧ (¬ cv S0 270 y i = -1 → o = 11 → i + 1 < n)) (hK : ∀ S : CST, DrP S0 S y n → K S y) :
    ∀ (k j : Nat) (S : CST), j + k = n → DrP S0 S y j → wl_X6_plainCode_9 K Post (k + 1) S y (nI j) := by
  intro k
  induction k with
  | zero =>
    intro j S hj hd
    obtain rfl : j = n := by omega
    have hyS : y < cnP S := by rw [show cnP S = cnP S0 from congrArg Prod.fst hd.1.1]; exact hy
    unfold wl_X6_plainCode_9
    rw [hd.1.2 247 rfl, hl]
    exact ⟨cin_24 rfl hyS, fun _ => hK S hd, fun c => absurd (nI_le (Nat.le_refl _) (by omega)) c⟩
  | succ k ih =>
    intro j S hj hd
    have hyS : y < cnP S := by rw [show cnP S = cnP S0 from congrArg Prod.fst hd.1.1]; exact hy
    obtain ⟨hE, h72, h90, h80⟩ := id hd
    have hj60 : j < n := by omega
    unfold wl_X6_plainCode_9
    rw [hE.2 247 rfl, hl, nI_1]
    refine ⟨cin_24 rfl hyS, fun c => absurd c (nI_ge hj60 (by omega)), fun _ => xp_X3_begin (by omega) ?_⟩
    obtain ⟨S14, e14⟩ : ∃ z, z = cs S 90 0 (upd (cv S 90 0) j (cv S 72 0 0)) := ⟨_, rfl⟩
    rw [← e14]
    have hT14 : S14.2 = S.2 := by rw [e14]; rfl
    have hE14 : Ex [72, 80, 90] S0 S14 := by rw [e14]; exact Ex.cs (by decide) hE
    have hy14 : y < cnP S14 := by rw [show cnP S14 = cnP S from congrArg Prod.fst hT14]; exact hyS
    have hl14 : cv S14 247 y 0 = nI n := by rw [hE14.2 247 rfl]; exact hl
    have v72 : cv S14 72 0 0 = nI (posN (lvC S0 y) j) := by rw [e14, cs_n _ _ (fun w => absurd w.1 (by decide))]; exact h72
    have v90 : ∀ i : Nat, i < j + 1 → cv S14 90 0 i = nI (posN (lvC S0 y) i) := fun i hi => by
      rw [e14, cs_s]
      by_cases w : i = j
      · rw [w, upd_s]; exact h72
      · rw [upd_n _ _ w]; exact h90 i (by omega)
    have v80 : cv S14 80 0 = cv S 80 0 := by rw [e14]; exact cs_n _ _ (fun w => absurd w.1 (by decide))
    obtain ⟨o, ho, hop, h11⟩ := hops j hj60
    have hp := posN_le (lvC S0 y) j
    -- where the INSTRUCTION has no PART
    have skip : lvC S0 y j = false → wl_X6_plainCode_9 K Post (k + 1) S14 y (nI (j + 1)) := fun hf => by
      have hs : posN (lvC S0 y) (j + 1) = posN (lvC S0 y) j := by show posN (lvC S0 y) j + (if lvC S0 y j = true then 1 else 0) = _; rw [hf]; rfl
      refine ih (j + 1) S14 (by omega) ⟨hE14, by rw [hs]; exact v72, v90, fun i o' hi hL => ?_⟩
      have w : i ≠ j := fun w => by rw [w, hf] at hL; cases hL
      rw [v80]
      exact h80 i o' (by omega) hL
    refine ⟨cin_24 rfl hy14, xp_X8_isDead hy14 hl14 hn60 hj60 (fun c => ⟨fun _ => skip ?_, fun q => absurd q (by decide)⟩) (fun c => ⟨fun q => absurd rfl q, fun _ => ?_⟩)⟩
    · rw [hE14.2 270 rfl] at c
      exact decide_eq_false (fun q => q.1 c)
    · rw [hE14.2 270 rfl] at c
      refine xp_X3_addTemplate (o := o) (x := cv S0 260 y j) (D := cv S0 270 y j) (Dn := cv S0 270 y (j + 1)) hy14 hl14 hn60 hj60 ho (by rw [hE14.2 250 rfl]; exact hop) (by rw [hE14.2 260 rfl]) (by rw [hE14.2 270 rfl]) (fun q => ⟨h11 c q, by rw [hE14.2 270 rfl]⟩) v72 (by omega) (fun h19 S20 ha => ?_) (fun h19 => skip ?_)
      · have hL : lvC S0 y j = true := decide_eq_true ⟨c, fun q => h19 (nI_inj (b := 19) (hop.symm.trans q) (by omega) (by omega))⟩
        have hs : posN (lvC S0 y) (j + 1) = posN (lvC S0 y) j + 1 := by show posN (lvC S0 y) j + (if lvC S0 y j = true then 1 else 0) = _; rw [hL]; rfl
        obtain ⟨a1, a2, a3, a4, a5, a6, a7, a8⟩ := ha
        refine ih (j + 1) S20 (by omega) ⟨Ex.step a1 (by decide) hE14, by rw [hs]; exact a2, fun i hi => by rw [a1.2 90 rfl]; exact v90 i hi, fun i o' hi hLi hopi hoi => ?_⟩
        by_cases w : i = j
        · subst w
          obtain rfl : o' = o := nI_inj (hopi.symm.trans hop) (by omega) (by omega)
          exact ⟨a4, a5, a6, a7, a8⟩
        · have hlt := posN_lt (show i < j by omega) hLi
          rw [a3 _ (by omega), a3 _ (by omega), a3 _ (by omega), a3 _ (by omega), a3 _ (by omega), v80]
          exact h80 i o' (by omega) hLi hopi hoi
      · exact decide_eq_false (fun q => q.2 (by rw [hop, h19]; rfl))
theorem xp_X3_clear {S : CST} {Post : CST → Prop} (h : ∀ S' : CST, Ex [72, 90] S S' → cv S' 72 0 0 = 0 → (∀ t : Nat, t < 60 → cv S' 90 0 t = 0) → Post S') : wp_X3_clear S Post := by
  unfold wp_X3_clear
  intro S2 e2
  have key : ∀ (k j : Nat) (S1 : CST), j + k = 60 → Ex [72, 90] S S1 → cv S1 72 0 0 = 0 → (∀ t : Nat, t < j → cv S1 90 0 t = 0) → wl_J7_fill_53178_k9_5 (fun S_20 => Post S_20) (fun S4 => Post S4) (k + 1) S1 0 (nI j) 60 := by
    intro k
    induction k with
    | zero =>
      intro j S1 hj hE h7 hd
      obtain rfl : j = 60 := by omega
      unfold wl_J7_fill_53178_k9_5
      exact ⟨fun _ => h S1 hE h7 hd, fun c => absurd (show (60 : Int32) ≤ nI 60 by decide) c⟩
    | succ k ih =>
      intro j S1 hj hE h7 hd
      unfold wl_J7_fill_53178_k9_5
      rw [nI_1, nI_clamp (n := j) (by omega)]
      refine ⟨fun c => absurd c (nI_ge (b := 60) (by omega) (by omega)), fun _ => ⟨vp_in_nI (by omega) (by omega), fun S4 e4 => ih (j + 1) S4 (by omega) (by rw [e4]; exact Ex.cs (by decide) hE) (by rw [e4, cs_n _ _ (fun w => absurd w.1 (by decide))]; exact h7) (fun t ht => ?_)⟩⟩
      rw [e4, cs_s]
      by_cases w : t = j
      · rw [w, upd_s]
      · rw [upd_n _ _ w]; exact hd t (by omega)
  exact ⟨61, key 60 0 S2 (by omega) (by rw [e2]; exact Ex.cs (by decide) Ex.rf) (by rw [e2, cs_s]) (fun t ht => absurd ht (by omega))⟩
/-- a code made of the draft: N PARTS, for n INSTRUCTIONS -/
def FiC (S S' : CST) (c N n : Nat) (making heads : Int32) : Prop := S'.2 = (cnP S, cnC S + 1) ∧ c = cnC S ∧ (∀ k i : Nat, ¬ (i = cnC S ∧ 320 ≤ k) → cv S' k i = cv S k i) ∧ cv S' 320 c 0 = making ∧ cv S' 321 c 0 = heads ∧ cv S' 339 c 0 = nI (5 * N) ∧ cv S' 349 c 0 = nI n ∧ (∀ j : Nat, j < 5 * N → cv S' 330 c j = cv S 80 0 j) ∧ ∀ j : Nat, j < n → cv S' 340 c j = cv S 90 0 j
theorem xp_X3_finish {S : CST} {N n : Nat} {a1 a2 : Int32} {Post : CST → Nat → Prop} (hw : Wid S) (hc : cnC S < 104) (h72 : cv S 72 0 0 = nI N) (hN : N ≤ 1511) (hn : n ≤ 60) (h : ∀ (S' : CST) (c : Nat), FiC S S' c N n a1 a2 → Post S' c) : wp_X3_finish S a1 a2 (nI n) Post := by
  unfold wp_X3_finish
  rw [h72, zmx_nI (by omega), zmx_nI (by omega), nI5, nI_clamp (by omega), nI_clamp (by omega)]
  refine ⟨hw, hc, nI_nn _ (by omega), by omega, nI_nn _ (by omega), hn, fun f1 f2 h1 h2 => h _ _ ?_⟩
  have hin : ∀ k : Nat, 320 ≤ k → cv (addC S a1 a2 (nI (5 * N)) (nI n) f1 f2) k (cnC S) = (if k = 320 then fun _ => a1 else if k = 321 then fun _ => a2 else if k = 330 then f1 else if k = 339 then fun _ => nI (5 * N) else if k = 340 then f2 else if k = 349 then fun _ => nI n else fun _ => 0) := fun k hk => if_pos ⟨rfl, hk⟩
  refine ⟨rfl, rfl, fun k i hk => if_neg hk, by rw [hin 320 (by decide)]; rfl, by rw [hin 321 (by decide)]; rfl, by rw [hin 339 (by decide)]; rfl, by rw [hin 349 (by decide)]; rfl, fun j hj => ?_, fun j hj => ?_⟩
  · rw [hin 330 (by decide)]
    show f1 j = cv S 80 0 j
    rw [h1 j hj, if_pos (by omega)]
  · rw [hin 340 (by decide)]
    show f2 j = cv S 90 0 j
    rw [h2 j hj, if_pos (by omega)]
theorem xp_X6_plainCode {S : CST} {y n : Nat} {Post : CST → Nat → Prop} (hy : y < cnP S) (hw : Wid S) (hc : cnC S < 104) (hl : cv S 247 y 0 = nI n) (hn60 : n ≤ 60) (hops : ∀ i : Nat, i < n → ∃ o : Nat, o < 20 ∧ cv S 250 y i = nI o ∧ (¬ cv S 270 y i = -1 → o = 11 → i + 1 < n))
    (h : ∀ (S' : CST) (c : Nat), Fc [72, 80, 90] S S' → cnP S' = cnP S → cnC S' = cnC S + 1 → c = cnC S → PlC S' y c n → Post S' c) : wp_X6_plainCode S y Post := by
  have hex : wp_X6_plainCode S y (fun S' c => cnP S' = cnP S ∧ cnC S' = cnC S + 1 ∧ c = cnC S ∧ PlC S' y c n) := by
    unfold wp_X6_plainCode
    refine xp_X3_clear (fun S3 hE3 h3 _ => ⟨n + 1, ?_⟩)
    have hE3' : Ex [72, 80, 90] S S3 := Ex.step hE3 (by decide) Ex.rf
    refine xp_plain_9 hy hl hn60 hops (fun S48 hd => ?_) n 0 S3 (by omega) ⟨hE3', h3, fun i hi => absurd hi (by omega), fun i o hi => absurd hi (by omega)⟩
    obtain ⟨hE, h72, h90, h80⟩ := hd
    have p1 : cnP S48 = cnP S := congrArg Prod.fst hE.1
    have p2 : cnC S48 = cnC S := congrArg Prod.snd hE.1
    have hw48 : Wid S48 := by
      unfold Wid
      rw [p1, p2, hE.2 20 rfl, hE.2 220 rfl, hE.2 221 rfl, hE.2 249 rfl, hE.2 281 rfl]
      exact hw
    have hpn := posN_le (lvC S y) n
    refine ⟨cin_24 rfl (show y < cnP S48 by rw [p1]; exact hy), cin_24 rfl (show y < cnP S48 by rw [p1]; exact hy), ?_⟩
    rw [hE.2 247 rfl, hl]
    refine xp_X3_finish hw48 (by rw [p2]; exact hc) h72 (by omega) hn60 (fun S9 c hF => ?_)
    obtain ⟨f1, f2, f3, f4, f5, f6, f7, f8, f9⟩ := hF
    have hlow : ∀ k i : Nat, k < 320 → cv S9 k i = cv S48 k i := fun k i hk => f3 k i (by omega)
    have hlv : lvC S9 y = lvC S y := by
      funext i
      unfold lvC
      rw [hlow 270 y (by decide), hlow 250 y (by decide), hE.2 270 rfl, hE.2 250 rfl]
    refine ⟨by rw [show cnP S9 = S9.2.1 from rfl, f1]; exact p1, by rw [show cnC S9 = S9.2.2 from rfl, f1]; show cnC S48 + 1 = _; rw [p2], f2.trans p2, ?_⟩
    unfold PlC
    rw [hlv, hlow 250 y (by decide), hlow 260 y (by decide), hlow 270 y (by decide), hE.2 250 rfl, hE.2 260 rfl, hE.2 270 rfl]
    refine ⟨f4, f5, f7, f6, fun i hi => by rw [f9 i hi]; exact h90 i hi, fun i o hi hL hop ho => ?_⟩
    have hlt := posN_lt hi hL
    rw [f8 _ (by omega), f8 _ (by omega), f8 _ (by omega), f8 _ (by omega), f8 _ (by omega)]
    exact h80 i o hi hL hop ho
  exact an_X6_plainCode hex hex (fun S' c f hq _ => h S' c f hq.1 hq.2.1 hq.2.2.1 hq.2.2.2)
