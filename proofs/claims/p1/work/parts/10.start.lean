set_option maxHeartbeats 4000000 in
set_option maxRecDepth 100000 in
theorem zl_head {p : Program} {e : Env} {s : State} {m : MethodId} {below : List Frame} {meth : Method} {c : Code} (l : Launch) {bs L : Nat} {xs : Nat → Int32} (C0 : lw_At p s m meth c bs L xs) (hL : L ≤ 5) {A : Nat → Prop} (hA : ∀ q : Nat, s.heap.size ≤ q → A q) (hbA : ¬ A bs) (hfin : ∀ q : Nat, A q → s.heap.size ≤ q) {D : va_G} {cI cZ cP cF : Nat} (hE : zE D cI cZ cP cF s) {h0 b d lo ma pr f le it dr wa sm ta fr ha tr m0 q_args q_locals q_many q_op q_operand q_isLooked q_depths q_deepest q_waits q_gone q_fields q_sizes q_rows q_hasCode q_counted q_madeCodes q_guardsFailed q_codeCalls q_value q_isLike q_doesVary q_partMany q_starts q_partOp q_partD q_partA q_partB q_partOf q_assumed q_localKnown q_localIs q_placeKnown q_placeIs q_frameMethod q_frameAt q_frameCode q_frameDepth q_register q_trap q_first : Nat} {g g2 : Nat → Int32} (hM : zM4 g) (hM2 : zM4 g2) {H : Heap} {locs : List Loc} {ls : Array Slot} (hP : va_P D vwCl [(h0, .inr (11, [.ref b, .ref d, .ref lo, .ref ma])), (b, .inr (0, [.ref pr, .int 0])), (pr, .inl (cP, 8, .inr (.inr (.inr (.inr (fun _ => none)))))), (d, .inr (2, [.ref f, .ref le, .ref it])), (f, .inl (cI, 8, .inl (fun _ => 0))), (le, .inl (cI, 4, .inl g)), (it, .inl (cI, 80, .inl (fun _ => 0))), (lo, .inr (6, [.ref b, .ref dr, .ref wa, .int 0])), (ma, .inr (7, [.ref b, .ref d, .ref sm, .ref ta, .ref fr, .ref ha, .int 0, .int 0, .int 0, .int 0])), (ta, .inr (10, [.int 0, .int 0, .int 0, .int 0, .int 0, .int 0, .ref tr])), (tr, .inl (cI, 4, .inl (fun _ => 0))), (m0, .inr (12, [.int 0, .ref q_args, .ref q_locals, .ref q_many, .ref q_op, .ref q_operand, .ref q_isLooked, .ref q_depths, .ref q_deepest, .int 0, .ref q_waits, .ref q_gone, .ref q_fields, .ref q_sizes, .ref q_rows, .ref q_hasCode, .ref q_counted, .ref q_madeCodes, .ref q_guardsFailed, .ref q_codeCalls, .ref q_value, .ref q_isLike, .ref q_doesVary, .ref q_partMany, .ref q_starts, .ref q_partOp, .ref q_partD, .ref q_partA, .ref q_partB, .ref q_partOf, .ref q_assumed, .int 0, .int 0, .ref q_localKnown, .ref q_localIs, .ref q_placeKnown, .ref q_placeIs, .int 0, .ref q_frameMethod, .ref q_frameAt, .ref q_frameCode, .ref q_frameDepth, .ref q_register, .int 0, .int 0, .int 0, .int 0, .int 0, .int 0, .int 0, .ref q_trap, .ref q_first])), (q_args, .inl (cI, 8, .inl (fun _ => 0))), (q_locals, .inl (cI, 8, .inl (fun _ => 0))), (q_fields, .inl (cI, 8, .inl (fun _ => 0))), (q_sizes, .inl (cI, 4, .inl g2)), (q_trap, .inl (cI, 4, .inl (fun _ => 0)))] H) (hD : va_D A [(h0, .inr (11, [.ref b, .ref d, .ref lo, .ref ma])), (b, .inr (0, [.ref pr, .int 0])), (pr, .inl (cP, 8, .inr (.inr (.inr (.inr (fun _ => none)))))), (d, .inr (2, [.ref f, .ref le, .ref it])), (f, .inl (cI, 8, .inl (fun _ => 0))), (le, .inl (cI, 4, .inl g)), (it, .inl (cI, 80, .inl (fun _ => 0))), (lo, .inr (6, [.ref b, .ref dr, .ref wa, .int 0])), (ma, .inr (7, [.ref b, .ref d, .ref sm, .ref ta, .ref fr, .ref ha, .int 0, .int 0, .int 0, .int 0])), (ta, .inr (10, [.int 0, .int 0, .int 0, .int 0, .int 0, .int 0, .ref tr])), (tr, .inl (cI, 4, .inl (fun _ => 0))), (m0, .inr (12, [.int 0, .ref q_args, .ref q_locals, .ref q_many, .ref q_op, .ref q_operand, .ref q_isLooked, .ref q_depths, .ref q_deepest, .int 0, .ref q_waits, .ref q_gone, .ref q_fields, .ref q_sizes, .ref q_rows, .ref q_hasCode, .ref q_counted, .ref q_madeCodes, .ref q_guardsFailed, .ref q_codeCalls, .ref q_value, .ref q_isLike, .ref q_doesVary, .ref q_partMany, .ref q_starts, .ref q_partOp, .ref q_partD, .ref q_partA, .ref q_partB, .ref q_partOf, .ref q_assumed, .int 0, .int 0, .ref q_localKnown, .ref q_localIs, .ref q_placeKnown, .ref q_placeIs, .int 0, .ref q_frameMethod, .ref q_frameAt, .ref q_frameCode, .ref q_frameDepth, .ref q_register, .int 0, .int 0, .int 0, .int 0, .int 0, .int 0, .int 0, .ref q_trap, .ref q_first])), (q_args, .inl (cI, 8, .inl (fun _ => 0))), (q_locals, .inl (cI, 8, .inl (fun _ => 0))), (q_fields, .inl (cI, 8, .inl (fun _ => 0))), (q_sizes, .inl (cI, 4, .inl g2)), (q_trap, .inl (cI, 4, .inl (fun _ => 0)))]) (hS : va_S A s.heap H locs) (hl : lv_has ls 4 [(3, .int 0), (2, .ref m0), (1, .ref h0), (0, .ref bs)]) : W p l e room_1 s m #[Value.ref bs] below meth c H locs 95 323715 (lw_Z below #[Value.ref bs] s) (F0 m 18 ls []) := by
  obtain ⟨hx, hb, hr, hml, hown, hts0, hX, hbl, hlocks, hgv⟩ := id C0
  refine lv_iload_n hx hb dL_law_18 rfl (lv_at hl 0 rfl) ?_
  refine lv_aload_n hx hb dL_law_19 rfl (lv_at hl 3 rfl) ?_
  refine va_slen hx hb hX hbl hbA hS dL_law_20 ?_
  refine lv_iconst (v := 5) hx hb dL_law_21 (by decide) ?_
  refine lv_isub hx hb dL_law_22 ?_
  by_cases h5 : L = 5
  · subst h5
    refine lv_icmp_gt (tgt := 641) hx hb dL_law_23 (by decide) (fun c => absurd c (by decide)) (fun _ => ?_)
    refine lv_aload_n hx hb dL_law_26 rfl (lv_at hl 3 rfl) ?_
    refine lv_iload_n hx hb dL_law_27 rfl (lv_at hl 0 rfl) ?_
    have hin : vp_in 0 5 := by unfold vp_in; decide
    refine va_sld hx hb hX hbl hbA hS hin dL_law_28 ?_
    refine lv_bipush (v := 31) hx hb dL_law_29 (by decide) ?_
    refine lv_iand hx hb dL_law_31 ?_
    refine lv_topi (fun x9 _ => ?_)
    rcases z_tab17 x9 with h_out | h_in | h_in | h_in | h_in | h_in | h_in | h_in | h_in | h_in | h_in | h_in | h_in | h_in | h_in | h_in | h_in | h_in | h_in
    · refine lv_tableOut (tgt := 635) hx hb dL_law_32 h_out (by decide) ?_
      exact zl_tail l C0 hA hbA hfin (Nat.le_of_ble_eq_true rfl) (Nat.le_of_ble_eq_true rfl) hS (lv_sub hl [0, 3] rfl)
    · refine lv_tableIn (off := 88) (tgt := 120) hx hb dL_law_32 (by rw [h_in]; decide) (by rw [h_in]; decide) (by rw [h_in]; decide) (by decide) ?_
      exact zl_0 l C0 hA hbA hfin hE hM hM2 (hP.sub [0, 1, 2, 11, 12, 13] rfl) (hD.sub [0, 1, 2, 11, 12, 13] (by decide) rfl) hS hl
    · refine lv_tableIn (off := 121) (tgt := 153) hx hb dL_law_32 (by rw [h_in]; decide) (by rw [h_in]; decide) (by rw [h_in]; decide) (by decide) ?_
      exact zl_1 l C0 hA hbA hfin hE hM hM2 (hP.sub [0, 1, 11] rfl) (hD.sub [0, 1, 11] (by decide) rfl) hS hl
    · refine lv_tableIn (off := 164) (tgt := 196) hx hb dL_law_32 (by rw [h_in]; decide) (by rw [h_in]; decide) (by rw [h_in]; decide) (by decide) ?_
      exact zl_2 l C0 hA hbA hfin hE hM hM2 (hP.sub [0, 1, 11] rfl) (hD.sub [0, 1, 11] (by decide) rfl) hS hl
    · refine lv_tableIn (off := 187) (tgt := 219) hx hb dL_law_32 (by rw [h_in]; decide) (by rw [h_in]; decide) (by rw [h_in]; decide) (by decide) ?_
      exact zl_3 l C0 hA hbA hfin hE hM hM2 (hP.sub [0, 7, 11] rfl) (hD.sub [0, 7, 11] (by decide) rfl) hS hl
    · refine lv_tableIn (off := 200) (tgt := 232) hx hb dL_law_32 (by rw [h_in]; decide) (by rw [h_in]; decide) (by rw [h_in]; decide) (by decide) ?_
      exact zl_4 l C0 hA hbA hfin hE hM hM2 (hP.sub [0, 3, 4, 11, 14] rfl) (hD.sub [0, 3, 4, 11, 14] (by decide) rfl) hS hl
    · refine lv_tableIn (off := 233) (tgt := 265) hx hb dL_law_32 (by rw [h_in]; decide) (by rw [h_in]; decide) (by rw [h_in]; decide) (by decide) ?_
      exact zl_5 l C0 hA hbA hfin hE hM hM2 (hP.sub [0, 3, 4, 11, 14] rfl) (hD.sub [0, 3, 4, 11, 14] (by decide) rfl) hS hl
    · refine lv_tableIn (off := 256) (tgt := 288) hx hb dL_law_32 (by rw [h_in]; decide) (by rw [h_in]; decide) (by rw [h_in]; decide) (by decide) ?_
      exact zl_6 l C0 hA hbA hfin hE hM hM2 (hP.sub [0, 3, 5, 6, 11, 15] rfl) (hD.sub [0, 3, 5, 6, 11, 15] (by decide) rfl) hS hl
    · refine lv_tableIn (off := 279) (tgt := 311) hx hb dL_law_32 (by rw [h_in]; decide) (by rw [h_in]; decide) (by rw [h_in]; decide) (by decide) ?_
      exact zl_7 l C0 hA hbA hfin hE hM hM2 (hP.sub [0, 3, 5, 11, 15] rfl) (hD.sub [0, 3, 5, 11, 15] (by decide) rfl) hS hl
    · refine lv_tableIn (off := 302) (tgt := 334) hx hb dL_law_32 (by rw [h_in]; decide) (by rw [h_in]; decide) (by rw [h_in]; decide) (by decide) ?_
      exact zl_8 l C0 hA hbA hfin hE hM hM2 (hP.sub [0, 3, 5, 11, 15] rfl) (hD.sub [0, 3, 5, 11, 15] (by decide) rfl) hS hl
    · refine lv_tableIn (off := 335) (tgt := 367) hx hb dL_law_32 (by rw [h_in]; decide) (by rw [h_in]; decide) (by rw [h_in]; decide) (by decide) ?_
      exact zl_9 l C0 hA hbA hfin hE hM hM2 (hP.sub [0, 1, 11] rfl) (hD.sub [0, 1, 11] (by decide) rfl) hS hl
    · refine lv_tableIn (off := 388) (tgt := 420) hx hb dL_law_32 (by rw [h_in]; decide) (by rw [h_in]; decide) (by rw [h_in]; decide) (by decide) ?_
      exact zl_10 l C0 hA hbA hfin hE hM hM2 (hP.sub [0, 8, 9, 11] rfl) (hD.sub [0, 8, 9, 11] (by decide) rfl) hS hl
    · refine lv_tableIn (off := 401) (tgt := 433) hx hb dL_law_32 (by rw [h_in]; decide) (by rw [h_in]; decide) (by rw [h_in]; decide) (by decide) ?_
      exact zl_11 l C0 hA hbA hfin hE hM hM2 (hP.sub [0, 8, 9, 10, 11, 16] rfl) (hD.sub [0, 8, 9, 10, 11, 16] (by decide) rfl) hS hl
    · refine lv_tableIn (off := 424) (tgt := 456) hx hb dL_law_32 (by rw [h_in]; decide) (by rw [h_in]; decide) (by rw [h_in]; decide) (by decide) ?_
      exact zl_12 l C0 hA hbA hfin hE hM hM2 (hP.sub [0, 1, 11] rfl) (hD.sub [0, 1, 11] (by decide) rfl) hS hl
    · refine lv_tableIn (off := 457) (tgt := 489) hx hb dL_law_32 (by rw [h_in]; decide) (by rw [h_in]; decide) (by rw [h_in]; decide) (by decide) ?_
      exact zl_13 l C0 hA hbA hfin hE hM hM2 (hP.sub [0, 1, 11] rfl) (hD.sub [0, 1, 11] (by decide) rfl) hS hl
    · refine lv_tableIn (off := 500) (tgt := 532) hx hb dL_law_32 (by rw [h_in]; decide) (by rw [h_in]; decide) (by rw [h_in]; decide) (by decide) ?_
      exact zl_14 l C0 hA hbA hfin hE hM hM2 (hP.sub [0, 1, 11] rfl) (hD.sub [0, 1, 11] (by decide) rfl) hS hl
    · refine lv_tableIn (off := 533) (tgt := 565) hx hb dL_law_32 (by rw [h_in]; decide) (by rw [h_in]; decide) (by rw [h_in]; decide) (by decide) ?_
      exact zl_15 l C0 hA hbA hfin hE hM hM2 (hP.sub [0, 1, 11] rfl) (hD.sub [0, 1, 11] (by decide) rfl) hS hl
    · refine lv_tableIn (off := 566) (tgt := 598) hx hb dL_law_32 (by rw [h_in]; decide) (by rw [h_in]; decide) (by rw [h_in]; decide) (by decide) ?_
      exact zl_16 l C0 hA hbA hfin hE hM hM2 (hP.sub [0, 1, 8, 9, 11] rfl) (hD.sub [0, 1, 8, 9, 11] (by decide) rfl) hS hl
    · refine lv_tableIn (off := 589) (tgt := 621) hx hb dL_law_32 (by rw [h_in]; decide) (by rw [h_in]; decide) (by rw [h_in]; decide) (by decide) ?_
      exact zl_17 l C0 hA hbA hfin hE hM hM2 (hP.sub [0, 1, 3, 4, 5, 8, 9, 10, 11, 14, 15, 16] rfl) (hD.sub [0, 1, 3, 4, 5, 8, 9, 10, 11, 14, 15, 16] (by decide) rfl) hS hl
  · have hlt : Int32.ofNat L - 5 < 0 := by rcases (show L = 0 ∨ L = 1 ∨ L = 2 ∨ L = 3 ∨ L = 4 by omega) with rfl | rfl | rfl | rfl | rfl <;> decide
    refine lv_icmp_gt (tgt := 641) hx hb dL_law_23 (by decide) (fun _ => ?_) (fun c => absurd hlt c)
    exact zl_end l C0 hfin (Nat.le_of_ble_eq_true rfl) (Nat.le_of_ble_eq_true rfl) hS

set_option maxHeartbeats 4000000 in
set_option maxRecDepth 100000 in
/-- THE LAW, from its entry -/
theorem whole_start {p : Program} {e : Env} {s : State} {m : MethodId} {below : List Frame} {meth : Method} {c : Code} (l : Launch) (hflags : l.flags = flags0) {b L : Nat} {xs : Nat → Int32} (hL : L ≤ 5) (C0 : lw_At p s m meth c b L xs) : W p l e room_1 s m #[Value.ref b] below meth c s.heap [] 0 0 (lw_Z below #[Value.ref b] s) (entryFrame m ([Value.ref b] : List Value).toArray 4) := by
  obtain ⟨bs, hbs⟩ : ∃ q, q = b := ⟨_, rfl⟩
  subst hbs
  obtain ⟨hx, hb, hr, hml, hown, hts0, hX, hbl, hlocks, hgv⟩ := id C0
  have hts : ∀ w ∈ zw_law, w.before #[Value.ref bs] s = true := fun w h => hts0 w (zw_law_in w h)
  have hown : s.vm.findClass RL = some m.cls := hown
  obtain ⟨D, cI, cZ, cP, cF, hE⟩ := zl_env hts0
  have hK := hE.k
  obtain ⟨A, hAe⟩ : ∃ A : Nat → Prop, A = fun q => s.heap.size ≤ q := ⟨_, rfl⟩
  have hA : ∀ q : Nat, s.heap.size ≤ q → A q := fun q h => by rw [hAe]; exact h
  have hfin : ∀ q : Nat, A q → s.heap.size ≤ q := fun q h => by rw [hAe] at h; exact h
  have hbA : ¬ A bs := fun q => absurd (hfin bs q) (Nat.not_le.mpr hbl)
  have hS : va_S A s.heap s.heap [] := va_S.rf
  have hP : va_P D vwCl [] s.heap := fun k q h => by simp at h
  have hD : va_D A [] := ⟨fun i j p q h => by simp at h, fun k q h => by simp at h⟩
  have hl := lv_entry ([.ref bs]) (n := 4) (Nat.le_of_ble_eq_true rfl)
  rw [lg_entry_eq]
  generalize (lg_sl ([.ref bs]) ++ List.replicate (4 - (lg_sl ([.ref bs])).length) Slot.unset).toArray = ls at hl ⊢
  have hl : lv_has ls 4 [(0, .ref bs)] := hl
  refine va_new (ci := 11) (fs := [.null, .null, .null, .null]) (C := RX11) (T := TX11) (N := 4) hx hb hts (fun _ h => List.mem_append_left _ (List.mem_append_right _ h)) tyX11 tyX11_ok hown (hts (.classLink RL 7 RX11) (List.mem_of_getElem? (i := 276) rfl)) (hts (.instantiable RX11 4) (List.mem_of_getElem? (i := 277) rfl)) (hts (.initialized RX11) (List.mem_of_getElem? (i := 40) rfl)) hK hP hD hS hA rfl (fun j hj => by rcases (show j = 0 ∨ j = 1 ∨ j = 2 ∨ j = 3 by omega) with rfl | rfl | rfl | rfl <;> rfl) (Nat.le_of_ble_eq_true rfl) (Nat.le_of_ble_eq_true rfl) dL_law_0 (fun q1 H hP hD hS => ?_)
  have hP : va_P D vwCl [(q1, .inr (11, [.null, .null, .null, .null]))] H := hP
  have hD : va_D A [(q1, .inr (11, [.null, .null, .null, .null]))] := hD
  refine lv_dup hx hb dL_law_3 rfl ?_
  have hPc := hP.sub (ws' := [(q1, .inr (11, [.null, .null, .null, .null]))]) [0] rfl
  have hDc := hD.sub (ws' := [(q1, .inr (11, [.null, .null, .null, .null]))]) [0] (by decide) rfl
  have hFc := va_free (wc := [(q1, .inr (11, [.null, .null, .null, .null]))]) hD hS hA [0] rfl
  refine va_callv (va_runI (As := []) (rest := [.ref q1]) ⟨hx, hb, hml, hown, hts⟩ (zc_X11_init l D cI cZ cP cF q1 H.size) (cwI 0 hts zg_law_zc_X11_init rfl rfl rfl (hts (.initialized RX11) (List.mem_of_getElem? (i := 40) rfl)) (hts (.methodLink RL 9 yX11_init) (List.mem_of_getElem? (i := 350) rfl)) (hts (.instanceMethod yX11_init) (List.mem_of_getElem? (i := 349) rfl)) rfl (by decide +kernel) ⟨Nat.le_of_ble_eq_true rfl, Nat.le_of_ble_eq_true rfl⟩) ⟨zBW, fun U hU hW => ⟨rfl, by rw [hU], by rw [hU]; exact hPc, hE.warm hW, hDc.weaken (fun _ _ _ _ => trivial)⟩⟩ rfl rfl hl.1 rfl (lv_room (Nat.le_of_ble_eq_true rfl)) dL_law_4 ⟨Nat.le_of_ble_eq_true rfl, Nat.le_of_ble_eq_true rfl⟩) hS (fun q _ h => hFc q h) hFc (fun u t H1 locs ht hvm h_4_2 hB hz1 hk1 hS => ?_)
  obtain ⟨q3, q4, q5, q6, q7, q8, q9, q10, q11, q12, q13, q14, q15, q16, q17, q18, hM_19, hP1, hD1⟩ := hB
  rw [ht] at hP1
  obtain ⟨hP, hD⟩ := va_join (wr := []) (w1 := [(q1, .inr (11, [.ref q3, .ref q4, .ref q5, .ref q6])), (q3, .inr (0, [.ref q7, .int 0])), (q7, .inl (cP, 8, .inr (.inr (.inr (.inr (fun _ => none)))))), (q4, .inr (2, [.ref q8, .ref q9, .ref q10])), (q8, .inl (cI, 8, .inl (fun _ => 0))), (q9, .inl (cI, 4, .inl q11)), (q10, .inl (cI, 80, .inl (fun _ => 0))), (q5, .inr (6, [.ref q3, .ref q12, .ref q13, .int 0])), (q6, .inr (7, [.ref q3, .ref q4, .ref q14, .ref q15, .ref q16, .ref q17, .int 0, .int 0, .int 0, .int 0])), (q15, .inr (10, [.int 0, .int 0, .int 0, .int 0, .int 0, .int 0, .ref q18])), (q18, .inl (cI, 4, .inl (fun _ => 0)))]) hP hD [0] [] rfl rfl (by decide) (by decide) hk1 hFc hP1 hD1
  generalize H1 = H at hP hS ⊢
  have hP : va_P D vwCl [(q1, .inr (11, [.ref q3, .ref q4, .ref q5, .ref q6])), (q3, .inr (0, [.ref q7, .int 0])), (q7, .inl (cP, 8, .inr (.inr (.inr (.inr (fun _ => none)))))), (q4, .inr (2, [.ref q8, .ref q9, .ref q10])), (q8, .inl (cI, 8, .inl (fun _ => 0))), (q9, .inl (cI, 4, .inl q11)), (q10, .inl (cI, 80, .inl (fun _ => 0))), (q5, .inr (6, [.ref q3, .ref q12, .ref q13, .int 0])), (q6, .inr (7, [.ref q3, .ref q4, .ref q14, .ref q15, .ref q16, .ref q17, .int 0, .int 0, .int 0, .int 0])), (q15, .inr (10, [.int 0, .int 0, .int 0, .int 0, .int 0, .int 0, .ref q18])), (q18, .inl (cI, 4, .inl (fun _ => 0)))] H := hP
  have hD : va_D A [(q1, .inr (11, [.ref q3, .ref q4, .ref q5, .ref q6])), (q3, .inr (0, [.ref q7, .int 0])), (q7, .inl (cP, 8, .inr (.inr (.inr (.inr (fun _ => none)))))), (q4, .inr (2, [.ref q8, .ref q9, .ref q10])), (q8, .inl (cI, 8, .inl (fun _ => 0))), (q9, .inl (cI, 4, .inl q11)), (q10, .inl (cI, 80, .inl (fun _ => 0))), (q5, .inr (6, [.ref q3, .ref q12, .ref q13, .int 0])), (q6, .inr (7, [.ref q3, .ref q4, .ref q14, .ref q15, .ref q16, .ref q17, .int 0, .int 0, .int 0, .int 0])), (q15, .inr (10, [.int 0, .int 0, .int 0, .int 0, .int 0, .int 0, .ref q18])), (q18, .inl (cI, 4, .inl (fun _ => 0)))] := hD
  refine lv_astore_n (lv' := [(1, .ref q1), (0, .ref bs)]) hx hb dL_law_7 rfl hl (by decide) rfl (fun ls hl => ?_)
  refine va_new (ci := 12) (fs := [.int 0, .null, .null, .null, .null, .null, .null, .null, .null, .int 0, .null, .null, .null, .null, .null, .null, .null, .null, .null, .null, .null, .null, .null, .null, .null, .null, .null, .null, .null, .null, .null, .int 0, .int 0, .null, .null, .null, .null, .int 0, .null, .null, .null, .null, .null, .int 0, .int 0, .int 0, .int 0, .int 0, .int 0, .int 0, .null, .null]) (C := RX12) (T := TX12) (N := 52) hx hb hts (fun _ h => List.mem_append_right _ h) tyX12 tyX12_ok hown (hts (.classLink RL 10 RX12) (List.mem_of_getElem? (i := 351) rfl)) (hts (.instantiable RX12 52) (List.mem_of_getElem? (i := 352) rfl)) (hts (.initialized RX12) (List.mem_of_getElem? (i := 46) rfl)) hK hP hD hS hA rfl (fun j hj => by rcases (show j = 0 ∨ j = 1 ∨ j = 2 ∨ j = 3 ∨ j = 4 ∨ j = 5 ∨ j = 6 ∨ j = 7 ∨ j = 8 ∨ j = 9 ∨ j = 10 ∨ j = 11 ∨ j = 12 ∨ j = 13 ∨ j = 14 ∨ j = 15 ∨ j = 16 ∨ j = 17 ∨ j = 18 ∨ j = 19 ∨ j = 20 ∨ j = 21 ∨ j = 22 ∨ j = 23 ∨ j = 24 ∨ j = 25 ∨ j = 26 ∨ j = 27 ∨ j = 28 ∨ j = 29 ∨ j = 30 ∨ j = 31 ∨ j = 32 ∨ j = 33 ∨ j = 34 ∨ j = 35 ∨ j = 36 ∨ j = 37 ∨ j = 38 ∨ j = 39 ∨ j = 40 ∨ j = 41 ∨ j = 42 ∨ j = 43 ∨ j = 44 ∨ j = 45 ∨ j = 46 ∨ j = 47 ∨ j = 48 ∨ j = 49 ∨ j = 50 ∨ j = 51 by omega) with rfl | rfl | rfl | rfl | rfl | rfl | rfl | rfl | rfl | rfl | rfl | rfl | rfl | rfl | rfl | rfl | rfl | rfl | rfl | rfl | rfl | rfl | rfl | rfl | rfl | rfl | rfl | rfl | rfl | rfl | rfl | rfl | rfl | rfl | rfl | rfl | rfl | rfl | rfl | rfl | rfl | rfl | rfl | rfl | rfl | rfl | rfl | rfl | rfl | rfl | rfl | rfl <;> rfl) (Nat.le_of_ble_eq_true rfl) (Nat.le_of_ble_eq_true rfl) dL_law_8 (fun q20 H hP hD hS => ?_)
  have hP : va_P D vwCl [(q1, .inr (11, [.ref q3, .ref q4, .ref q5, .ref q6])), (q3, .inr (0, [.ref q7, .int 0])), (q7, .inl (cP, 8, .inr (.inr (.inr (.inr (fun _ => none)))))), (q4, .inr (2, [.ref q8, .ref q9, .ref q10])), (q8, .inl (cI, 8, .inl (fun _ => 0))), (q9, .inl (cI, 4, .inl q11)), (q10, .inl (cI, 80, .inl (fun _ => 0))), (q5, .inr (6, [.ref q3, .ref q12, .ref q13, .int 0])), (q6, .inr (7, [.ref q3, .ref q4, .ref q14, .ref q15, .ref q16, .ref q17, .int 0, .int 0, .int 0, .int 0])), (q15, .inr (10, [.int 0, .int 0, .int 0, .int 0, .int 0, .int 0, .ref q18])), (q18, .inl (cI, 4, .inl (fun _ => 0))), (q20, .inr (12, [.int 0, .null, .null, .null, .null, .null, .null, .null, .null, .int 0, .null, .null, .null, .null, .null, .null, .null, .null, .null, .null, .null, .null, .null, .null, .null, .null, .null, .null, .null, .null, .null, .int 0, .int 0, .null, .null, .null, .null, .int 0, .null, .null, .null, .null, .null, .int 0, .int 0, .int 0, .int 0, .int 0, .int 0, .int 0, .null, .null]))] H := hP
  have hD : va_D A [(q1, .inr (11, [.ref q3, .ref q4, .ref q5, .ref q6])), (q3, .inr (0, [.ref q7, .int 0])), (q7, .inl (cP, 8, .inr (.inr (.inr (.inr (fun _ => none)))))), (q4, .inr (2, [.ref q8, .ref q9, .ref q10])), (q8, .inl (cI, 8, .inl (fun _ => 0))), (q9, .inl (cI, 4, .inl q11)), (q10, .inl (cI, 80, .inl (fun _ => 0))), (q5, .inr (6, [.ref q3, .ref q12, .ref q13, .int 0])), (q6, .inr (7, [.ref q3, .ref q4, .ref q14, .ref q15, .ref q16, .ref q17, .int 0, .int 0, .int 0, .int 0])), (q15, .inr (10, [.int 0, .int 0, .int 0, .int 0, .int 0, .int 0, .ref q18])), (q18, .inl (cI, 4, .inl (fun _ => 0))), (q20, .inr (12, [.int 0, .null, .null, .null, .null, .null, .null, .null, .null, .int 0, .null, .null, .null, .null, .null, .null, .null, .null, .null, .null, .null, .null, .null, .null, .null, .null, .null, .null, .null, .null, .null, .int 0, .int 0, .null, .null, .null, .null, .int 0, .null, .null, .null, .null, .null, .int 0, .int 0, .int 0, .int 0, .int 0, .int 0, .int 0, .null, .null]))] := hD
  refine lv_dup hx hb dL_law_11 rfl ?_
  have hPc := hP.sub (ws' := [(q20, .inr (12, [.int 0, .null, .null, .null, .null, .null, .null, .null, .null, .int 0, .null, .null, .null, .null, .null, .null, .null, .null, .null, .null, .null, .null, .null, .null, .null, .null, .null, .null, .null, .null, .null, .int 0, .int 0, .null, .null, .null, .null, .int 0, .null, .null, .null, .null, .null, .int 0, .int 0, .int 0, .int 0, .int 0, .int 0, .int 0, .null, .null]))]) [11] rfl
  have hDc := hD.sub (ws' := [(q20, .inr (12, [.int 0, .null, .null, .null, .null, .null, .null, .null, .null, .int 0, .null, .null, .null, .null, .null, .null, .null, .null, .null, .null, .null, .null, .null, .null, .null, .null, .null, .null, .null, .null, .null, .int 0, .int 0, .null, .null, .null, .null, .int 0, .null, .null, .null, .null, .null, .int 0, .int 0, .int 0, .int 0, .int 0, .int 0, .int 0, .null, .null]))]) [11] (by decide) rfl
  have hFc := va_free (wc := [(q20, .inr (12, [.int 0, .null, .null, .null, .null, .null, .null, .null, .null, .int 0, .null, .null, .null, .null, .null, .null, .null, .null, .null, .null, .null, .null, .null, .null, .null, .null, .null, .null, .null, .null, .null, .int 0, .int 0, .null, .null, .null, .null, .int 0, .null, .null, .null, .null, .null, .int 0, .int 0, .int 0, .int 0, .int 0, .int 0, .int 0, .null, .null]))]) hD hS hA [11] rfl
  refine va_callv (va_runI (As := []) (rest := [.ref q20]) ⟨hx, hb, hml, hown, hts⟩ (zc_X12_init l D cI cZ cP cF q20 H.size) (cwI 0 hts zg_law_zc_X12_init rfl rfl rfl (hts (.initialized RX12) (List.mem_of_getElem? (i := 46) rfl)) (hts (.methodLink RL 12 yX12_init) (List.mem_of_getElem? (i := 392) rfl)) (hts (.instanceMethod yX12_init) (List.mem_of_getElem? (i := 391) rfl)) rfl (by decide +kernel) ⟨Nat.le_of_ble_eq_true rfl, Nat.le_of_ble_eq_true rfl⟩) ⟨zBW, fun U hU hW => ⟨rfl, by rw [hU], by rw [hU]; exact hPc, hE.warm hW, hDc.weaken (fun _ _ _ _ => trivial)⟩⟩ rfl rfl hl.1 rfl (lv_room (Nat.le_of_ble_eq_true rfl)) dL_law_12 ⟨Nat.le_of_ble_eq_true rfl, Nat.le_of_ble_eq_true rfl⟩) hS (fun q _ h => hFc q h) hFc (fun u t H1 locs ht hvm h_12_21 hB hz1 hk1 hS => ?_)
  obtain ⟨q22, q23, q24, q25, q26, q27, q28, q29, q30, q31, q32, q33, q34, q35, q36, q37, q38, q39, q40, q41, q42, q43, q44, q45, q46, q47, q48, q49, q50, q51, q52, q53, q54, q55, q56, q57, q58, q59, q60, q61, q62, hM_63, hP1, hD1⟩ := hB
  rw [ht] at hP1
  obtain ⟨hP, hD⟩ := va_join (wr := [(q1, .inr (11, [.ref q3, .ref q4, .ref q5, .ref q6])), (q3, .inr (0, [.ref q7, .int 0])), (q7, .inl (cP, 8, .inr (.inr (.inr (.inr (fun _ => none)))))), (q4, .inr (2, [.ref q8, .ref q9, .ref q10])), (q8, .inl (cI, 8, .inl (fun _ => 0))), (q9, .inl (cI, 4, .inl q11)), (q10, .inl (cI, 80, .inl (fun _ => 0))), (q5, .inr (6, [.ref q3, .ref q12, .ref q13, .int 0])), (q6, .inr (7, [.ref q3, .ref q4, .ref q14, .ref q15, .ref q16, .ref q17, .int 0, .int 0, .int 0, .int 0])), (q15, .inr (10, [.int 0, .int 0, .int 0, .int 0, .int 0, .int 0, .ref q18])), (q18, .inl (cI, 4, .inl (fun _ => 0)))]) (w1 := [(q20, .inr (12, [.int 0, .ref q22, .ref q23, .ref q24, .ref q25, .ref q26, .ref q27, .ref q28, .ref q29, .int 0, .ref q30, .ref q31, .ref q32, .ref q33, .ref q34, .ref q35, .ref q36, .ref q37, .ref q38, .ref q39, .ref q40, .ref q41, .ref q42, .ref q43, .ref q44, .ref q45, .ref q46, .ref q47, .ref q48, .ref q49, .ref q50, .int 0, .int 0, .ref q51, .ref q52, .ref q53, .ref q54, .int 0, .ref q55, .ref q56, .ref q57, .ref q58, .ref q59, .int 0, .int 0, .int 0, .int 0, .int 0, .int 0, .int 0, .ref q60, .ref q61])), (q22, .inl (cI, 8, .inl (fun _ => 0))), (q23, .inl (cI, 8, .inl (fun _ => 0))), (q32, .inl (cI, 8, .inl (fun _ => 0))), (q33, .inl (cI, 4, .inl q62)), (q60, .inl (cI, 4, .inl (fun _ => 0)))]) hP hD [11] [0, 1, 2, 3, 4, 5, 6, 7, 8, 9, 10] rfl rfl (by decide) (by decide) hk1 hFc hP1 hD1
  generalize H1 = H at hP hS ⊢
  have hP : va_P D vwCl [(q1, .inr (11, [.ref q3, .ref q4, .ref q5, .ref q6])), (q3, .inr (0, [.ref q7, .int 0])), (q7, .inl (cP, 8, .inr (.inr (.inr (.inr (fun _ => none)))))), (q4, .inr (2, [.ref q8, .ref q9, .ref q10])), (q8, .inl (cI, 8, .inl (fun _ => 0))), (q9, .inl (cI, 4, .inl q11)), (q10, .inl (cI, 80, .inl (fun _ => 0))), (q5, .inr (6, [.ref q3, .ref q12, .ref q13, .int 0])), (q6, .inr (7, [.ref q3, .ref q4, .ref q14, .ref q15, .ref q16, .ref q17, .int 0, .int 0, .int 0, .int 0])), (q15, .inr (10, [.int 0, .int 0, .int 0, .int 0, .int 0, .int 0, .ref q18])), (q18, .inl (cI, 4, .inl (fun _ => 0))), (q20, .inr (12, [.int 0, .ref q22, .ref q23, .ref q24, .ref q25, .ref q26, .ref q27, .ref q28, .ref q29, .int 0, .ref q30, .ref q31, .ref q32, .ref q33, .ref q34, .ref q35, .ref q36, .ref q37, .ref q38, .ref q39, .ref q40, .ref q41, .ref q42, .ref q43, .ref q44, .ref q45, .ref q46, .ref q47, .ref q48, .ref q49, .ref q50, .int 0, .int 0, .ref q51, .ref q52, .ref q53, .ref q54, .int 0, .ref q55, .ref q56, .ref q57, .ref q58, .ref q59, .int 0, .int 0, .int 0, .int 0, .int 0, .int 0, .int 0, .ref q60, .ref q61])), (q22, .inl (cI, 8, .inl (fun _ => 0))), (q23, .inl (cI, 8, .inl (fun _ => 0))), (q32, .inl (cI, 8, .inl (fun _ => 0))), (q33, .inl (cI, 4, .inl q62)), (q60, .inl (cI, 4, .inl (fun _ => 0)))] H := hP
  have hD : va_D A [(q1, .inr (11, [.ref q3, .ref q4, .ref q5, .ref q6])), (q3, .inr (0, [.ref q7, .int 0])), (q7, .inl (cP, 8, .inr (.inr (.inr (.inr (fun _ => none)))))), (q4, .inr (2, [.ref q8, .ref q9, .ref q10])), (q8, .inl (cI, 8, .inl (fun _ => 0))), (q9, .inl (cI, 4, .inl q11)), (q10, .inl (cI, 80, .inl (fun _ => 0))), (q5, .inr (6, [.ref q3, .ref q12, .ref q13, .int 0])), (q6, .inr (7, [.ref q3, .ref q4, .ref q14, .ref q15, .ref q16, .ref q17, .int 0, .int 0, .int 0, .int 0])), (q15, .inr (10, [.int 0, .int 0, .int 0, .int 0, .int 0, .int 0, .ref q18])), (q18, .inl (cI, 4, .inl (fun _ => 0))), (q20, .inr (12, [.int 0, .ref q22, .ref q23, .ref q24, .ref q25, .ref q26, .ref q27, .ref q28, .ref q29, .int 0, .ref q30, .ref q31, .ref q32, .ref q33, .ref q34, .ref q35, .ref q36, .ref q37, .ref q38, .ref q39, .ref q40, .ref q41, .ref q42, .ref q43, .ref q44, .ref q45, .ref q46, .ref q47, .ref q48, .ref q49, .ref q50, .int 0, .int 0, .ref q51, .ref q52, .ref q53, .ref q54, .int 0, .ref q55, .ref q56, .ref q57, .ref q58, .ref q59, .int 0, .int 0, .int 0, .int 0, .int 0, .int 0, .int 0, .ref q60, .ref q61])), (q22, .inl (cI, 8, .inl (fun _ => 0))), (q23, .inl (cI, 8, .inl (fun _ => 0))), (q32, .inl (cI, 8, .inl (fun _ => 0))), (q33, .inl (cI, 4, .inl q62)), (q60, .inl (cI, 4, .inl (fun _ => 0)))] := hD
  refine lv_astore_n (lv' := [(2, .ref q20), (1, .ref q1), (0, .ref bs)]) hx hb dL_law_15 rfl hl (by decide) rfl (fun ls hl => ?_)
  refine lv_iconst (v := 0) hx hb dL_law_16 (by decide) ?_
  refine lv_istore_n (lv' := [(3, .int 0), (2, .ref q20), (1, .ref q1), (0, .ref bs)]) hx hb dL_law_17 rfl hl (by decide) rfl (fun ls hl => ?_)
  have hP := hP.sub (ws' := [(q1, .inr (11, [.ref q3, .ref q4, .ref q5, .ref q6])), (q3, .inr (0, [.ref q7, .int 0])), (q7, .inl (cP, 8, .inr (.inr (.inr (.inr (fun _ => none)))))), (q4, .inr (2, [.ref q8, .ref q9, .ref q10])), (q8, .inl (cI, 8, .inl (fun _ => 0))), (q9, .inl (cI, 4, .inl q11)), (q10, .inl (cI, 80, .inl (fun _ => 0))), (q5, .inr (6, [.ref q3, .ref q12, .ref q13, .int 0])), (q6, .inr (7, [.ref q3, .ref q4, .ref q14, .ref q15, .ref q16, .ref q17, .int 0, .int 0, .int 0, .int 0])), (q15, .inr (10, [.int 0, .int 0, .int 0, .int 0, .int 0, .int 0, .ref q18])), (q18, .inl (cI, 4, .inl (fun _ => 0))), (q20, .inr (12, [.int 0, .ref q22, .ref q23, .ref q24, .ref q25, .ref q26, .ref q27, .ref q28, .ref q29, .int 0, .ref q30, .ref q31, .ref q32, .ref q33, .ref q34, .ref q35, .ref q36, .ref q37, .ref q38, .ref q39, .ref q40, .ref q41, .ref q42, .ref q43, .ref q44, .ref q45, .ref q46, .ref q47, .ref q48, .ref q49, .ref q50, .int 0, .int 0, .ref q51, .ref q52, .ref q53, .ref q54, .int 0, .ref q55, .ref q56, .ref q57, .ref q58, .ref q59, .int 0, .int 0, .int 0, .int 0, .int 0, .int 0, .int 0, .ref q60, .ref q61])), (q22, .inl (cI, 8, .inl (fun _ => 0))), (q23, .inl (cI, 8, .inl (fun _ => 0))), (q32, .inl (cI, 8, .inl (fun _ => 0))), (q33, .inl (cI, 4, .inl q62)), (q60, .inl (cI, 4, .inl (fun _ => 0)))]) [0, 1, 2, 3, 4, 5, 6, 7, 8, 9, 10, 11, 12, 13, 14, 15, 16] rfl
  have hD := hD.sub (ws' := [(q1, .inr (11, [.ref q3, .ref q4, .ref q5, .ref q6])), (q3, .inr (0, [.ref q7, .int 0])), (q7, .inl (cP, 8, .inr (.inr (.inr (.inr (fun _ => none)))))), (q4, .inr (2, [.ref q8, .ref q9, .ref q10])), (q8, .inl (cI, 8, .inl (fun _ => 0))), (q9, .inl (cI, 4, .inl q11)), (q10, .inl (cI, 80, .inl (fun _ => 0))), (q5, .inr (6, [.ref q3, .ref q12, .ref q13, .int 0])), (q6, .inr (7, [.ref q3, .ref q4, .ref q14, .ref q15, .ref q16, .ref q17, .int 0, .int 0, .int 0, .int 0])), (q15, .inr (10, [.int 0, .int 0, .int 0, .int 0, .int 0, .int 0, .ref q18])), (q18, .inl (cI, 4, .inl (fun _ => 0))), (q20, .inr (12, [.int 0, .ref q22, .ref q23, .ref q24, .ref q25, .ref q26, .ref q27, .ref q28, .ref q29, .int 0, .ref q30, .ref q31, .ref q32, .ref q33, .ref q34, .ref q35, .ref q36, .ref q37, .ref q38, .ref q39, .ref q40, .ref q41, .ref q42, .ref q43, .ref q44, .ref q45, .ref q46, .ref q47, .ref q48, .ref q49, .ref q50, .int 0, .int 0, .ref q51, .ref q52, .ref q53, .ref q54, .int 0, .ref q55, .ref q56, .ref q57, .ref q58, .ref q59, .int 0, .int 0, .int 0, .int 0, .int 0, .int 0, .int 0, .ref q60, .ref q61])), (q22, .inl (cI, 8, .inl (fun _ => 0))), (q23, .inl (cI, 8, .inl (fun _ => 0))), (q32, .inl (cI, 8, .inl (fun _ => 0))), (q33, .inl (cI, 4, .inl q62)), (q60, .inl (cI, 4, .inl (fun _ => 0)))]) [0, 1, 2, 3, 4, 5, 6, 7, 8, 9, 10, 11, 12, 13, 14, 15, 16] (by decide) rfl
  exact zl_head l C0 hL hA hbA hfin hE hM_19 hM_63 hP hD hS hl
-- ===== YOUR PART ENDS =====
set_option maxHeartbeats 4000000 in
theorem lw_walk (l : Launch) (hflags : l.flags = flags0) (b : Addr) (xs : List Int32) : MetFree l x (headSpec (Jvm.Cond.code x code maxLocals ret :: tables_1) room_1) (lw_P b xs) (fun _ _ _ _ _ => True) lw_Q := by
  refine MetFree.of_bodyS (code := code) (maxLocals := maxLocals) (ret := ret) (by decide) ?_ ?_
  · intro args s m h hn
    obtain ⟨meth, c, h1, h2, h3, h4, h5, h6, -, -⟩ := Cond.code_spec hn (atoms_spec (ws := Jvm.Cond.code x code maxLocals ret :: tables_1) h _ List.mem_cons_self)
    exact ⟨meth, c, h1, h2, h3, h4, h5, h6⟩
  · intro p e s m args below meth c s₁ B hml0 hP _
    obtain ⟨rfl, hx, hbd, hgv⟩ := hP
    obtain ⟨scr, harrAt, hlist, hof, hsmall⟩ := hx
    obtain ⟨hcb, hkn, -, -⟩ := State.arrayAt?_spec harrAt
    have hown : s.vm.findClass R_law = some m.cls := findClass_of_methodNamed B.named
    have hts0 : ∀ c ∈ (Jvm.Cond.code x code maxLocals ret :: tables_1), c.before #[Value.ref b] s = true := atoms_spec (ws := Jvm.Cond.code x code maxLocals ret :: tables_1) B.pre
    have hts : ∀ w ∈ lw_tbl, w.before #[Value.ref b] s = true := k2_hts_sels lw_privs (fun w hw => hts0 w (List.mem_cons_of_mem _ hw)) lw_privs_ok
    have hml : c.maxLocals = 4 := B.maxLocals_eq (hts0 _ List.mem_cons_self)
    have X₀ : Stand p l e room_1 s m #[Value.ref b] below meth c s₁ [] 0 0 := Stand.of_body B
    have hh0 : s₁.heap = s.heap := by rw [B.state]; rfl
    have hsz : scr.slots.size = xs.length := by rw [← Array.length_toList, hlist, List.length_map]
    have hval : ∀ j : Nat, j < xs.length → scr.slots[j]? = some (.int (xs.getD j 0)) := fun j hj => by
      rw [← Array.getElem?_toList, hlist]
      simp [hj]
    have hbl : b < s.heap.size := (Array.getElem?_eq_some_iff.mp hcb).1
    have hX : va_X b xs.length (fun j => xs.getD j 0) s s.heap := ⟨scr, hcb, hof, hkn, hsz, hval⟩
    have K : W p l e room_1 s m #[Value.ref b] below meth c s₁.heap [] 0 0 (lw_Z below #[Value.ref b] s) (entryFrame m ([Value.ref b] : List Value).toArray 4) := by
      rw [hh0]
      exact whole_start l hflags hbd ⟨B.exec, B.bytes, B.returns, hml, hown, hts, hX, hbl, B.notSynchronized, hgv⟩
    obtain ⟨t, a1, o, b1, b2, b3⟩ := K s₁ rfl X₀
    exact ⟨t, o, a1, b1, b2, b3⟩
theorem lw_pre_spec {args : Array Value} {s : State} (h : (Jvm.Cond.and given_1 narrow_1).before args s = true) (hr : rest_1_c.before args s = true) : ∃ (b : Addr) (xs : List Int32), lw_P b xs args s := by
  have hs := flat_of_before _ h
  have hq := flat_of_before _ hr
  have hc : (Cond.count 1).before args s = true := hs _ (by decide +kernel)
  have harr : (Cond.arrayOf (.arg 0) .int).before args s = true := hs _ (by decide +kernel)
  have hle : (Cond.le (.length (.arg 0)) (.int 5)).before args s = true := hs _ (by decide +kernel)
  have hlen : (Cond.isInt (.length (.arg 0))).before args s = true := hq _ (by decide +kernel)
  have hall : (Cond.all (.arg 0) (.isInt (.elem (.arg 0) (.index 0)))).before args s = true := hq _ (by decide +kernel)
  obtain ⟨b, xs, hb, hx⟩ := State.ints_of_pre rfl harr hlen hall
  have hsm : xs.length < 2 ^ 31 := hx.choose_spec.2.2.2
  have hev : (Term.length (.arg 0)).eval args s none [] s = some (.int xs.length.toInt32) := hx.length_eval hb
  have hv := Cond.le_ints hev (show (Term.int 5).eval args s none [] s = some (.int 5) from rfl)
  have hd : xs.length.toInt32 ≤ 5 := by
    simpa [Cond.before, Cond.holds, hv] using hle
  have hN : xs.length ≤ 5 := (Int32.ofNat_le_ofNat hsm (by decide)).mp (show Int32.ofNat xs.length ≤ Int32.ofNat 5 from hd)
  exact ⟨b, xs, Cond.one_arg hc (show args[0]? = some (.ref b) from hb), hx, hN, h⟩
theorem lw_comes (l : Launch) (hflags : l.flags = flags0) : Comes l x (Jvm.Cond.code x code maxLocals ret :: tables_1) room_1 (fun tb e args s => Calls_1 tb e args s ∧ rest_1 tb e args s ∧ Pre_1 tb e args s)
    (fun _ _ args s o t => lw_Q args s o t) := by
  intro p e ha hc hk s m args below hf hfit hheap happ hpre
  obtain ⟨b, xs, hP⟩ := lw_pre_spec hpre.2.2 hpre.2.1
  obtain ⟨k, o, h1, h2, h3, hQ⟩ := lw_walk l hflags b xs p e ha hc hk s m args below hf ((Spec.applies_iff_loose hf).mp happ).1 hP trivial
  exact ⟨k, o, h1, h2, h3, hQ⟩
theorem lw_frame {s t : State} {o : Outcome} {args : Array Value} (h : Framed s o t [] 600000 7302250) :
    Framed s o t (fieldLocs frame_1_writes args s ++ arrayLocs frame_1_arrays args s ++ staticLocs frame_1_statics s) 600000 7302250 := h
theorem lw_limb (L : Cond) (hL : ∀ (args : Array Value) (s t : State), L.after args s (.returned (some (.int 1))) t = true) :
    ArmFor flags0 classFile x code maxLocals ret World_1 tables_1 room_1 Calls_1 rest_1 Pre_1
      (fun tb e a s o t => postC L tb e a s o t ∧ Framed s o t (fieldLocs frame_1_writes a s ++ arrayLocs frame_1_arrays a s ++ staticLocs frame_1_statics s) 600000 7302250) := by
  intro l hflags _ _ p e ha hc hk s m args below hf hfit hheap happ hpre
  obtain ⟨k, o, h1, h2, h3, rfl, hF⟩ := lw_comes l hflags p e ha hc hk s m args below hf hfit hheap happ hpre
  exact ⟨k, _, h1, h2, h3, hL args s _, lw_frame hF⟩
theorem i_vc : Claimed_1_1 ∧ Claimed_1_2 := ⟨lw_limb limb_1_1 (fun args s t => by simp [limb_1_1, Cond.after, Cond.holds, Cond.value]), lw_limb limb_1_2 (fun args s t => Cond.after_iff.mpr (by
  first | (rw [show limb_1_2 = Cond.eq .result (.int 1) from rfl, Cond.eq_ints (x := 1) (y := 1) rfl rfl]; simp; done) | (simp [limb_1_2, Cond.value, Term.eval]; done)))⟩

