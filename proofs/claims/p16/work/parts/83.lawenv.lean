set_option maxHeartbeats 4000000 in
set_option maxRecDepth 100000 in
theorem zl_env {s : State} {bs : Nat} (hts : ∀ w ∈ lw_tbl, w.before #[Value.ref bs] s = true) : ∃ (D : va_G) (cI cZ cP cF : Nat), zF D cI cZ cP cF s := by
  obtain ⟨c0, i0, hKn0⟩ := u_known (C := RX0) (T := TX0) (N := 2) (n := 2) hts (fun w h => (zg_wsX0 w h).1) (hts (.instantiable RX0 2) (List.mem_of_getElem? (i := 111) (by decide +kernel)))
  obtain ⟨c1, i1, hKn1⟩ := u_known (C := RX1) (T := TX1) (N := 4) (n := 4) hts (fun w h => (zg_wsX1 w h).1) (hts (.instantiable RX1 4) (List.mem_of_getElem? (i := 540) (by decide +kernel)))
  obtain ⟨c2, i2, hKn2⟩ := u_known (C := RX2) (T := TX2) (N := 3) (n := 3) hts (fun w h => (zg_wsX2 w h).1) (hts (.instantiable RX2 3) (List.mem_of_getElem? (i := 127) (by decide +kernel)))
  obtain ⟨c3, i3, hKn3⟩ := u_known (C := RX3) (T := TX3) (N := 3) (n := 3) hts (fun w h => (zg_wsX3 w h).1) (hts (.instantiable RX3 3) (List.mem_of_getElem? (i := 94) (by decide +kernel)))
  obtain ⟨c4, i4, hKn4⟩ := u_known (C := RX4) (T := TX4) (N := 5) (n := 5) hts (fun w h => (zg_wsX4 w h).1) (hts (.instantiable RX4 5) (List.mem_of_getElem? (i := 235) (by decide +kernel)))
  obtain ⟨c5, i5, hKn5⟩ := u_known (C := RX5) (T := TX5) (N := 9) (n := 9) hts (fun w h => (zg_wsX5 w h).1) (hts (.instantiable RX5 9) (List.mem_of_getElem? (i := 315) (by decide +kernel)))
  obtain ⟨c6, i6, hKn6⟩ := u_known (C := RX6) (T := TX6) (N := 4) (n := 4) hts (fun w h => (zg_wsX6 w h).1) (hts (.instantiable RX6 4) (List.mem_of_getElem? (i := 146) (by decide +kernel)))
  obtain ⟨c7, i7, hKn7⟩ := u_known (C := RX7) (T := TX7) (N := 10) (n := 10) hts (fun w h => (zg_wsX7 w h).1) (hts (.instantiable RX7 10) (List.mem_of_getElem? (i := 167) (by decide +kernel)))
  obtain ⟨c8, i8, hKn8⟩ := u_known (C := RX8) (T := TX8) (N := 10) (n := 10) hts (fun w h => (zg_wsX8 w h).1) (hts (.instantiable RX8 10) (List.mem_of_getElem? (i := 309) (by decide +kernel)))
  obtain ⟨c9, i9, hKn9⟩ := u_known (C := RX9) (T := TX9) (N := 5) (n := 5) hts (fun w h => (zg_wsX9 w h).1) (hts (.instantiable RX9 5) (List.mem_of_getElem? (i := 214) (by decide +kernel)))
  obtain ⟨c10, i10, hKn10⟩ := u_known (C := RX10) (T := TX10) (N := 7) (n := 7) hts (fun w h => (zg_wsX10 w h).1) (hts (.instantiable RX10 7) (List.mem_of_getElem? (i := 173) (by decide +kernel)))
  obtain ⟨c11, i11, hKn11⟩ := u_known (C := RX11) (T := TX11) (N := 4) (n := 4) hts (fun w h => (zg_wsX11 w h).1) (hts (.instantiable RX11 4) (List.mem_of_getElem? (i := 86) (by decide +kernel)))
  obtain ⟨c12, i12, hKn12⟩ := u_known (C := RX12) (T := TX12) (N := 52) (n := 52) hts (fun w h => (zg_wsX12 w h).1) (hts (.instantiable RX12 52) (List.mem_of_getElem? (i := 917) (by decide +kernel)))
  obtain ⟨dC, dI, hKc⟩ : ∃ (dC : Nat → ClassId) (dI : Nat → Nat → Nat), ∀ (k : Nat) (q : vw_C), vwCl[k]? = some q → u_Kn s q.1 q.2.1 q.2.2 (dC k) (dI k) := by
    refine ⟨fun k => if k = 0 then c0 else if k = 1 then c1 else if k = 2 then c2 else if k = 3 then c3 else if k = 4 then c4 else if k = 5 then c5 else if k = 6 then c6 else if k = 7 then c7 else if k = 8 then c8 else if k = 9 then c9 else if k = 10 then c10 else if k = 11 then c11 else c12, fun k => if k = 0 then i0 else if k = 1 then i1 else if k = 2 then i2 else if k = 3 then i3 else if k = 4 then i4 else if k = 5 then i5 else if k = 6 then i6 else if k = 7 then i7 else if k = 8 then i8 else if k = 9 then i9 else if k = 10 then i10 else if k = 11 then i11 else i12, ?_⟩
    intro k q hq
    match k, hq with
    | 0, hq => cases hq; exact hKn0
    | 1, hq => cases hq; exact hKn1
    | 2, hq => cases hq; exact hKn2
    | 3, hq => cases hq; exact hKn3
    | 4, hq => cases hq; exact hKn4
    | 5, hq => cases hq; exact hKn5
    | 6, hq => cases hq; exact hKn6
    | 7, hq => cases hq; exact hKn7
    | 8, hq => cases hq; exact hKn8
    | 9, hq => cases hq; exact hKn9
    | 10, hq => cases hq; exact hKn10
    | 11, hq => cases hq; exact hKn11
    | 12, hq => cases hq; exact hKn12
    | k + 13, hq => simp [vwCl] at hq
  obtain ⟨cI, kI, oI, aI1, aI2, aI3⟩ := Cond.arrayClass_spec (hts (.arrayClass .int) (List.mem_of_getElem? (i := 109) (by decide +kernel)))
  obtain ⟨cZ, kZ, oZ, aZ1, aZ2, aZ3⟩ := Cond.arrayClass_spec (hts (.arrayClass .boolean) (List.mem_of_getElem? (i := 165) (by decide +kernel)))
  have aoP : va_AO RX8 s := va_AO.of (hts (.arrayOver (.object RX8)) (List.mem_of_getElem? (i := 117) (by decide +kernel)))
  obtain ⟨oP, cP, kP, aP1, aP2, aP3, aP4, aP5⟩ := Cond.arrayOver_spec aoP
  have aoF : va_AO RX4 s := va_AO.of (hts (.arrayOver (.object RX4)) (List.mem_of_getElem? (i := 212) (by decide +kernel)))
  obtain ⟨oF, cF, kF, aF1, aF2, aF3, aF4, aF5⟩ := Cond.arrayOver_spec aoF
  refine ⟨(dC, dI), cI, cZ, cP, cF, ⟨⟨hKc, ?_⟩, aoP, aoF, va_Nw.of rfl (hts (.methodLinkNest RX11 11 yX3_init "TemplateForge") (List.mem_of_getElem? (i := 95) (by decide +kernel))), va_Nw.of rfl (hts (.methodLinkNest RX11 14 yX0_init "TemplateForge") (List.mem_of_getElem? (i := 112) (by decide +kernel))), va_Nw.of rfl (hts (.methodLinkNest RX7 11 yX10_init "TemplateForge") (List.mem_of_getElem? (i := 174) (by decide +kernel))), va_Nw.of rfl (hts (.methodLinkNest RX7 45 yX4_init "TemplateForge") (List.mem_of_getElem? (i := 236) (by decide +kernel))), va_Nw.of rfl (hts (.methodLinkNest RX8 11 yX5_init "TemplateForge") (List.mem_of_getElem? (i := 316) (by decide +kernel)))⟩, va_Nw.of rfl (hts (.methodLinkNest RX7 208 yX11_reckoned "TemplateForge") (List.mem_of_getElem? (i := 715) (by decide +kernel))), va_Nw.of rfl (hts (.methodLinkNest RX9 160 yX11_reckoned "TemplateForge") (List.mem_of_getElem? (i := 830) (by decide +kernel))), va_Nw.of rfl (hts (.fieldLinkNest RX0 35 RX11 "TAKES" "[I" "TemplateForge") (List.mem_of_getElem? (i := 473) (by decide +kernel))), va_Nw.of rfl (hts (.fieldLinkNest RX6 81 RX11 "LAYS" "[I" "TemplateForge") (List.mem_of_getElem? (i := 480) (by decide +kernel))), va_Nw.of rfl (hts (.castable "[I" "java/lang/Cloneable") (List.mem_of_getElem? (i := 531) (by decide +kernel)))⟩
  intro k q hq
  match k, hq with
  | 0, hq => cases hq; exact ⟨fun n z => ⟨fun k h => (by cases h), kI, aI2, oI, aI3⟩, aI1⟩
  | 1, hq => cases hq; exact ⟨fun n z => ⟨fun k h => (by cases h), kZ, aZ2, oZ, aZ3⟩, aZ1⟩
  | 2, hq => cases hq; exact ⟨fun n z => ⟨fun k h => (by cases h), kP, aP3, oP, aP4⟩, kP, oP, aP3, aP4, aP1, aP5⟩
  | 3, hq => cases hq; exact ⟨fun n z => ⟨fun k h => (by cases h), kF, aF3, oF, aF4⟩, kF, oF, aF3, aF4, aF1, aF5⟩
  | k + 4, hq => simp at hq
theorem z_band {args : Array Value} {s : State} {A B : Cond} (h : (Cond.and A B).before args s = true) : A.before args s = true ∧ B.before args s = true := by
  rw [Cond.before_and, Bool.and_eq_true] at h
  exact h
set_option maxHeartbeats 4000000 in
set_option maxRecDepth 100000 in
theorem zl_stat {s : State} {bs : Nat} {A : Nat → Prop} (hts : ∀ w ∈ lw_tbl, w.before #[Value.ref bs] s = true) (hgv : (Jvm.Cond.and given_1 narrow_1).before #[Value.ref bs] s = true) (hA : ∀ a : Nat, a < s.heap.size → ¬ A a) : zT A s s.heap := by
  have n : narrow_1.before #[Value.ref bs] s = true := (z_band hgv).2
  have n1 := (z_band n).1
  have n11 := (z_band n1).1
  have n111 := (z_band n11).1
  have n1111 := (z_band n111).1
  have n11112 := (z_band n1111).2
  have n111122 := (z_band n11112).2
  have n1112 := (z_band n111).2
  have n11121 := (z_band n1112).1
  have n111211 := (z_band n11121).1
  have n111212 := (z_band n11121).2
  have n11122 := (z_band n1112).2
  have n111221 := (z_band n11122).1
  have n111222 := (z_band n11122).2
  have n1112221 := (z_band n111222).1
  have n1112222 := (z_band n111222).2
  have n112 := (z_band n11).2
  have n1121 := (z_band n112).1
  have n11211 := (z_band n1121).1
  have n112111 := (z_band n11211).1
  have n112112 := (z_band n11211).2
  have n11212 := (z_band n1121).2
  have n112121 := (z_band n11212).1
  have n112122 := (z_band n11212).2
  have n1121221 := (z_band n112122).1
  have n1121222 := (z_band n112122).2
  have n1122 := (z_band n112).2
  have n11221 := (z_band n1122).1
  have n112211 := (z_band n11221).1
  have n112212 := (z_band n11221).2
  have n11222 := (z_band n1122).2
  have n112221 := (z_band n11222).1
  have n112222 := (z_band n11222).2
  have n1122221 := (z_band n112222).1
  have n1122222 := (z_band n112222).2
  have n12 := (z_band n1).2
  have n121 := (z_band n12).1
  have n1211 := (z_band n121).1
  have n12111 := (z_band n1211).1
  have n121111 := (z_band n12111).1
  have n121112 := (z_band n12111).2
  have n12112 := (z_band n1211).2
  have n121121 := (z_band n12112).1
  have n121122 := (z_band n12112).2
  have n1212 := (z_band n121).2
  have n12121 := (z_band n1212).1
  have n121211 := (z_band n12121).1
  have n121212 := (z_band n12121).2
  obtain ⟨tzTK, hzTK, TzTK⟩ := va_Tof (tm := .static RX11 "TAKES" "[I") (ty := .int) (N := 20) (f := fun j => .int (zTK j)) (A := A) (by decide) n111122 (va_eqt n111211) (fun j hj => by
    rcases (show j = 0 ∨ j = 1 ∨ j = 2 ∨ j = 3 ∨ j = 4 ∨ j = 5 ∨ j = 6 ∨ j = 7 ∨ j = 8 ∨ j = 9 ∨ j = 10 ∨ j = 11 ∨ j = 12 ∨ j = 13 ∨ j = 14 ∨ j = 15 ∨ j = 16 ∨ j = 17 ∨ j = 18 ∨ j = 19 by omega) with rfl | rfl | rfl | rfl | rfl | rfl | rfl | rfl | rfl | rfl | rfl | rfl | rfl | rfl | rfl | rfl | rfl | rfl | rfl | rfl
    · exact va_eqt n111212
    · exact va_eqt n111221
    · exact va_eqt n1112221
    · exact va_eqt n1112222
    · exact va_eqt n112111
    · exact va_eqt n112112
    · exact va_eqt n112121
    · exact va_eqt n1121221
    · exact va_eqt n1121222
    · exact va_eqt n112211
    · exact va_eqt n112212
    · exact va_eqt n112221
    · exact va_eqt n1122221
    · exact va_eqt n1122222
    · exact va_eqt n121111
    · exact va_eqt n121112
    · exact va_eqt n121121
    · exact va_eqt n121122
    · exact va_eqt n121211
    · exact va_eqt n121212) hA
  have ZzTK := va_Zof (A := A) (hts (.laysStatic RX11 "TAKES" "[I") (List.mem_of_getElem? (i := 474) (by decide +kernel))) (hts (.initialized RX11) (List.mem_of_getElem? (i := 69) (by decide +kernel))) hzTK hA
  have n12122 := (z_band n1212).2
  have n121222 := (z_band n12122).2
  have n1212221 := (z_band n121222).1
  have n1212222 := (z_band n121222).2
  have n122 := (z_band n12).2
  have n1221 := (z_band n122).1
  have n12211 := (z_band n1221).1
  have n122111 := (z_band n12211).1
  have n122112 := (z_band n12211).2
  have n12212 := (z_band n1221).2
  have n122121 := (z_band n12212).1
  have n122122 := (z_band n12212).2
  have n1221221 := (z_band n122122).1
  have n1221222 := (z_band n122122).2
  have n1222 := (z_band n122).2
  have n12221 := (z_band n1222).1
  have n122211 := (z_band n12221).1
  have n122212 := (z_band n12221).2
  have n12222 := (z_band n1222).2
  have n122221 := (z_band n12222).1
  have n122222 := (z_band n12222).2
  have n1222221 := (z_band n122222).1
  have n1222222 := (z_band n122222).2
  have n2 := (z_band n).2
  have n21 := (z_band n2).1
  have n211 := (z_band n21).1
  have n2111 := (z_band n211).1
  have n21111 := (z_band n2111).1
  have n211111 := (z_band n21111).1
  have n211112 := (z_band n21111).2
  have n21112 := (z_band n2111).2
  have n211121 := (z_band n21112).1
  have n211122 := (z_band n21112).2
  have n2112 := (z_band n211).2
  have n21121 := (z_band n2112).1
  have n211211 := (z_band n21121).1
  have n211212 := (z_band n21121).2
  have n21122 := (z_band n2112).2
  have n211221 := (z_band n21122).1
  have n211222 := (z_band n21122).2
  have n2112221 := (z_band n211222).1
  have n2112222 := (z_band n211222).2
  have n212 := (z_band n21).2
  have n2121 := (z_band n212).1
  have n21211 := (z_band n2121).1
  have n212111 := (z_band n21211).1
  obtain ⟨tzLY, hzLY, TzLY⟩ := va_Tof (tm := .static RX11 "LAYS" "[I") (ty := .int) (N := 20) (f := fun j => .int (zLY j)) (A := A) (by decide) n1212221 (va_eqt n1212222) (fun j hj => by
    rcases (show j = 0 ∨ j = 1 ∨ j = 2 ∨ j = 3 ∨ j = 4 ∨ j = 5 ∨ j = 6 ∨ j = 7 ∨ j = 8 ∨ j = 9 ∨ j = 10 ∨ j = 11 ∨ j = 12 ∨ j = 13 ∨ j = 14 ∨ j = 15 ∨ j = 16 ∨ j = 17 ∨ j = 18 ∨ j = 19 by omega) with rfl | rfl | rfl | rfl | rfl | rfl | rfl | rfl | rfl | rfl | rfl | rfl | rfl | rfl | rfl | rfl | rfl | rfl | rfl | rfl
    · exact va_eqt n122111
    · exact va_eqt n122112
    · exact va_eqt n122121
    · exact va_eqt n1221221
    · exact va_eqt n1221222
    · exact va_eqt n122211
    · exact va_eqt n122212
    · exact va_eqt n122221
    · exact va_eqt n1222221
    · exact va_eqt n1222222
    · exact va_eqt n211111
    · exact va_eqt n211112
    · exact va_eqt n211121
    · exact va_eqt n211122
    · exact va_eqt n211211
    · exact va_eqt n211212
    · exact va_eqt n211221
    · exact va_eqt n2112221
    · exact va_eqt n2112222
    · exact va_eqt n212111) hA
  have ZzLY := va_Zof (A := A) (hts (.laysStatic RX11 "LAYS" "[I") (List.mem_of_getElem? (i := 481) (by decide +kernel))) (hts (.initialized RX11) (List.mem_of_getElem? (i := 69) (by decide +kernel))) hzLY hA
  exact ⟨tzTK, tzLY, ZzTK, TzTK, ZzLY, TzLY⟩
