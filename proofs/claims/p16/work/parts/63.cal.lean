def wl_X6_plainCode_9 (K_48 : CST → Nat → Prop) (Post : CST → Nat → Prop) : Nat → CST → Nat → Int32 → Prop
  | 0, _, _, _ => False
  | n_9 + 1, S_9, y9_1, x9_2 => cin S_9 24 y9_1 ∧ ((((cv S_9 247 y9_1 0) ≤ x9_2) → ((K_48 S_9 y9_1))) ∧ ((¬ ((cv S_9 247 y9_1 0) ≤ x9_2)) → (wp_X3_begin S_9 x9_2 (fun S14 => cin S14 24 y9_1 ∧ (wp_X8_isDead S14 y9_1 x9_2 (fun r16 => ((¬ ((r16 : Int32) = 0)) → (wl_X6_plainCode_9 K_48 Post n_9 S14 y9_1 (x9_2 + 1))) ∧ (((r16 : Int32) = 0) → (wp_X3_addTemplate S14 y9_1 x9_2 (fun S20 => wl_X6_plainCode_9 K_48 Post n_9 S20 y9_1 (x9_2 + 1))))))))))
def wp_X6_plainCode (S : CST) (i1 : Nat) (Post : CST → Nat → Prop) : Prop :=
  wp_X3_clear S  (fun S3 => ∃ n_9, wl_X6_plainCode_9 (fun S_48 y48_1 => cin S_48 24 y48_1 ∧ (cin S_48 24 y48_1 ∧ (wp_X3_finish S_48 0 0 (cv S_48 247 y48_1 0) (fun S9 r9 => Post S9 r9)))) Post n_9 S3 i1 0)
def zw_zd_X6_plainCode_w0 : List Cond := [.fieldLink RX6 19 "TemplateForge$Looker" "draft" "LTemplateForge$Draft;", .code yX3_clear cX3_clear 1 none, .fieldLink RX3 18 "TemplateForge$Draft" "parts" "I", .fieldLink RX3 15 "TemplateForge$Draft" "starts" "[I", .code yJ7_fill_53178 cJ7_fill_53178 4 none, .methodLink RX3 22 yJ7_fill_53178, .static yJ7_fill_53178, .initialized RJ7, .methodLink RX6 108 yX3_clear, .instanceMethod yX3_clear, .selects RX3 yX3_clear yX3_clear, .initialized RX3, .fieldLink RX6 28 "TemplateForge$Program" "length" "I", .code yX3_finish cX3_finish 5 (some (.object "TemplateForge$Code")), .fieldLink RX3 9 "TemplateForge$Draft" "cells" "[I", .methodLink RX3 48 Lib.Math.max.name]
def zw_zd_X6_plainCode_w1 : List Cond := [.static Lib.Math.max.name, .initialized "java/lang/Math", .code Lib.Math.max.name Lib.Math.max.code 2 (some .int), .code yJ7_copyOf_59c91 cJ7_copyOf_59c91 3 (some (.array .int)), .methodLink RJ7 316 ⟨"[I", "clone", "()Ljava/lang/Object;"⟩, .sameMethod "[I" "java/lang/Object" "clone" "()Ljava/lang/Object;", .native ⟨"java/lang/Object", "clone", "()Ljava/lang/Object;"⟩, .instanceMethod ⟨"java/lang/Object", "clone", "()Ljava/lang/Object;"⟩, .selects "[I" ⟨"[I", "clone", "()Ljava/lang/Object;"⟩ ⟨"java/lang/Object", "clone", "()Ljava/lang/Object;"⟩, .classLink RJ7 317 "[I", .arrayClass .int, .methodLink RJ7 304 Lib.Math.min.name, .static Lib.Math.min.name, .code Lib.Math.min.name Lib.Math.min.code 2 (some .int), .methodLink RJ7 150 arraycopyName, .native arraycopyName]
def zw_zd_X6_plainCode_w2 : List Cond := [.static arraycopyName, .initialized "java/lang/System", .methodLink RX3 54 yJ7_copyOf_59c91, .static yJ7_copyOf_59c91, .classLink RX3 58 RX1, .instantiable RX1 4, .initialized RX1, .code yX1_init cX1_init 5 none, .methodLink RX1 3 objectInit, .instanceMethod objectInit, .code objectInit ⟨#[0xb1]⟩ 1 none, .fieldLink RX1 9 "TemplateForge$Code" "making" "I", .fieldLink RX1 15 "TemplateForge$Code" "heads" "I", .fieldLink RX1 18 "TemplateForge$Code" "cells" "[I", .fieldLink RX1 22 "TemplateForge$Code" "starts" "[I", .methodLink RX3 60 yX1_init]
def zw_zd_X6_plainCode_w3 : List Cond := [.instanceMethod yX1_init, .methodLink RX6 121 yX3_finish, .instanceMethod yX3_finish, .selects RX3 yX3_finish yX3_finish, .code yX3_begin cX3_begin 2 none, .methodLink RX6 113 yX3_begin, .instanceMethod yX3_begin, .selects RX3 yX3_begin yX3_begin, .code yX8_isDead cX8_isDead 2 (some .boolean), .code yX8_has cX8_has 2 (some .boolean), .fieldLink RX8 41 "TemplateForge$Program" "length" "I", .methodLink RX8 44 yX8_has, .instanceMethod yX8_has, .selects RX8 yX8_has yX8_has, .initialized RX8, .fieldLink RX8 25 "TemplateForge$Program" "depths" "[I"]
def zw_zd_X6_plainCode_w4 : List Cond := [.methodLink RX6 96 yX8_isDead, .instanceMethod yX8_isDead, .selects RX8 yX8_isDead yX8_isDead, .code yX3_addTemplate cX3_addTemplate 6 none, .code yX8_opAt cX8_opAt 2 (some .int), .fieldLink RX8 18 "TemplateForge$Program" "ops" "[I", .methodLink RX3 28 yX8_opAt, .instanceMethod yX8_opAt, .selects RX8 yX8_opAt yX8_opAt, .code yX8_xAt cX8_xAt 2 (some .int), .fieldLink RX8 22 "TemplateForge$Program" "xs" "[I", .methodLink RX3 34 yX8_xAt, .instanceMethod yX8_xAt, .selects RX8 yX8_xAt yX8_xAt, .code yX8_depthAt cX8_depthAt 2 (some .int), .methodLink RX3 37 yX8_depthAt]
def zw_zd_X6_plainCode_w5 : List Cond := [.instanceMethod yX8_depthAt, .selects RX8 yX8_depthAt yX8_depthAt, .code yX3_addReckoning cX3_addReckoning 5 none, .code yX3_add cX3_add 7 none, .methodLink RX3 40 yX3_add, .instanceMethod yX3_add, .selects RX3 yX3_add yX3_add, .methodLink RX3 44 yX3_addReckoning, .instanceMethod yX3_addReckoning, .selects RX3 yX3_addReckoning yX3_addReckoning, .methodLink RX6 117 yX3_addTemplate, .instanceMethod yX3_addTemplate, .selects RX3 yX3_addTemplate yX3_addTemplate]
def zw_zd_X6_plainCode : List Cond := .code yX6_plainCode cX6_plainCode 3 (some (.object "TemplateForge$Code")) :: ((zw_zd_X6_plainCode_w0 ++ (zw_zd_X6_plainCode_w1 ++ (zw_zd_X6_plainCode_w2 ++ (zw_zd_X6_plainCode_w3 ++ (zw_zd_X6_plainCode_w4 ++ (zw_zd_X6_plainCode_w5)))))) ++ wsX60 ++ wsX30 ++ wsX80 ++ wsX10)
set_option maxRecDepth 100000 in
theorem zg_zd_X6_plainCode_zd_X3_clear_108_a : GoodIn zw_zd_X6_plainCode [.methodLink RX6 108 yX3_clear, .instanceMethod yX3_clear, .selects RX3 yX3_clear yX3_clear, .initialized RX3] := goodIn_r _ [9, 10, 11, 12] rfl (by decide +kernel)
set_option maxRecDepth 100000 in
theorem zg_zd_X6_plainCode_zd_X3_clear_108_c : GoodIn zw_zd_X6_plainCode [.code yX3_clear cX3_clear 1 none] := goodIn_r _ [2] rfl (by decide +kernel)
set_option maxRecDepth 100000 in
theorem zg_zd_X6_plainCode_zd_X3_clear_108_0 : GoodIn zw_zd_X6_plainCode zw_zd_X3_clear_w0 := goodIn_r _ [3, 4, 5, 6, 7, 8] rfl (by decide +kernel)
theorem zg_zd_X6_plainCode_zd_X3_clear_108 : GoodIn zw_zd_X6_plainCode (wsV RX6 108 RX3 yX3_clear zw_zd_X3_clear) := goodIn_app zg_zd_X6_plainCode_zd_X3_clear_108_a (goodIn_ca (a := (zw_zd_X3_clear_w0)) (show GoodIn zw_zd_X6_plainCode (.code yX3_clear cX3_clear 1 none :: (zw_zd_X3_clear_w0)) from goodIn_app zg_zd_X6_plainCode_zd_X3_clear_108_c (zg_zd_X6_plainCode_zd_X3_clear_108_0)) (fun w h => ⟨(fun _ h => List.mem_cons_of_mem _ (List.mem_append_left _ (List.mem_append_left _ (List.mem_append_right _ h)))) w h, good_of_word (List.all_eq_true.mp zgw_X3 w h)⟩))
set_option maxRecDepth 100000 in
theorem zg_zd_X6_plainCode_zd_X3_finish_121_a : GoodIn zw_zd_X6_plainCode [.methodLink RX6 121 yX3_finish, .instanceMethod yX3_finish, .selects RX3 yX3_finish yX3_finish, .initialized RX3] := goodIn_r _ [50, 51, 52, 12] rfl (by decide +kernel)
set_option maxRecDepth 100000 in
theorem zg_zd_X6_plainCode_zd_X3_finish_121_c : GoodIn zw_zd_X6_plainCode [.code yX3_finish cX3_finish 5 (some (.object "TemplateForge$Code"))] := goodIn_r _ [14] rfl (by decide +kernel)
set_option maxRecDepth 100000 in
theorem zg_zd_X6_plainCode_zd_X3_finish_121_0 : GoodIn zw_zd_X6_plainCode zw_zd_X3_finish_w0 := goodIn_r _ [15, 3, 16, 17, 18, 19, 20, 21, 22, 23, 24, 25, 26, 27, 28, 29] rfl (by decide +kernel)
set_option maxRecDepth 100000 in
theorem zg_zd_X6_plainCode_zd_X3_finish_121_1 : GoodIn zw_zd_X6_plainCode zw_zd_X3_finish_w1 := goodIn_r _ [30, 31, 32, 33, 34, 35, 36, 8, 37, 38, 39, 4, 40, 41, 42, 43] rfl (by decide +kernel)
set_option maxRecDepth 100000 in
theorem zg_zd_X6_plainCode_zd_X3_finish_121_2 : GoodIn zw_zd_X6_plainCode zw_zd_X3_finish_w2 := goodIn_r _ [44, 45, 46, 47, 48, 49] rfl (by decide +kernel)
theorem zg_zd_X6_plainCode_zd_X3_finish_121 : GoodIn zw_zd_X6_plainCode (wsV RX6 121 RX3 yX3_finish zw_zd_X3_finish) := goodIn_app zg_zd_X6_plainCode_zd_X3_finish_121_a (goodIn_ca (a := ((zw_zd_X3_finish_w0 ++ (zw_zd_X3_finish_w1 ++ (zw_zd_X3_finish_w2))) ++ wsX30)) (goodIn_ca (a := (zw_zd_X3_finish_w0 ++ (zw_zd_X3_finish_w1 ++ (zw_zd_X3_finish_w2)))) (show GoodIn zw_zd_X6_plainCode (.code yX3_finish cX3_finish 5 (some (.object "TemplateForge$Code")) :: (zw_zd_X3_finish_w0 ++ (zw_zd_X3_finish_w1 ++ (zw_zd_X3_finish_w2)))) from goodIn_app zg_zd_X6_plainCode_zd_X3_finish_121_c (goodIn_app zg_zd_X6_plainCode_zd_X3_finish_121_0 (goodIn_app zg_zd_X6_plainCode_zd_X3_finish_121_1 (zg_zd_X6_plainCode_zd_X3_finish_121_2)))) (fun w h => ⟨(fun _ h => List.mem_cons_of_mem _ (List.mem_append_left _ (List.mem_append_left _ (List.mem_append_right _ h)))) w h, good_of_word (List.all_eq_true.mp zgw_X3 w h)⟩)) (fun w h => ⟨(fun _ h => List.mem_cons_of_mem _ (List.mem_append_right _ h)) w h, good_of_word (List.all_eq_true.mp zgw_X1 w h)⟩))
set_option maxRecDepth 100000 in
theorem zg_zd_X6_plainCode_zd_X3_begin_113_a : GoodIn zw_zd_X6_plainCode [.methodLink RX6 113 yX3_begin, .instanceMethod yX3_begin, .selects RX3 yX3_begin yX3_begin, .initialized RX3] := goodIn_r _ [54, 55, 56, 12] rfl (by decide +kernel)
set_option maxRecDepth 100000 in
theorem zg_zd_X6_plainCode_zd_X3_begin_113_c : GoodIn zw_zd_X6_plainCode [.code yX3_begin cX3_begin 2 none] := goodIn_r _ [53] rfl (by decide +kernel)
set_option maxRecDepth 100000 in
theorem zg_zd_X6_plainCode_zd_X3_begin_113_0 : GoodIn zw_zd_X6_plainCode zw_zd_X3_begin_w0 := goodIn_r _ [4, 3] rfl (by decide +kernel)
theorem zg_zd_X6_plainCode_zd_X3_begin_113 : GoodIn zw_zd_X6_plainCode (wsV RX6 113 RX3 yX3_begin zw_zd_X3_begin) := goodIn_app zg_zd_X6_plainCode_zd_X3_begin_113_a (goodIn_ca (a := (zw_zd_X3_begin_w0)) (show GoodIn zw_zd_X6_plainCode (.code yX3_begin cX3_begin 2 none :: (zw_zd_X3_begin_w0)) from goodIn_app zg_zd_X6_plainCode_zd_X3_begin_113_c (zg_zd_X6_plainCode_zd_X3_begin_113_0)) (fun w h => ⟨(fun _ h => List.mem_cons_of_mem _ (List.mem_append_left _ (List.mem_append_left _ (List.mem_append_right _ h)))) w h, good_of_word (List.all_eq_true.mp zgw_X3 w h)⟩))
set_option maxRecDepth 100000 in
theorem zg_zd_X6_plainCode_zd_X8_isDead_96_a : GoodIn zw_zd_X6_plainCode [.methodLink RX6 96 yX8_isDead, .instanceMethod yX8_isDead, .selects RX8 yX8_isDead yX8_isDead, .initialized RX8] := goodIn_r _ [65, 66, 67, 63] rfl (by decide +kernel)
set_option maxRecDepth 100000 in
theorem zg_zd_X6_plainCode_zd_X8_isDead_96_c : GoodIn zw_zd_X6_plainCode [.code yX8_isDead cX8_isDead 2 (some .boolean)] := goodIn_r _ [57] rfl (by decide +kernel)
set_option maxRecDepth 100000 in
theorem zg_zd_X6_plainCode_zd_X8_isDead_96_0 : GoodIn zw_zd_X6_plainCode zw_zd_X8_isDead_w0 := goodIn_r _ [58, 59, 60, 61, 62, 63, 64] rfl (by decide +kernel)
theorem zg_zd_X6_plainCode_zd_X8_isDead_96 : GoodIn zw_zd_X6_plainCode (wsV RX6 96 RX8 yX8_isDead zw_zd_X8_isDead) := goodIn_app zg_zd_X6_plainCode_zd_X8_isDead_96_a (goodIn_ca (a := (zw_zd_X8_isDead_w0)) (show GoodIn zw_zd_X6_plainCode (.code yX8_isDead cX8_isDead 2 (some .boolean) :: (zw_zd_X8_isDead_w0)) from goodIn_app zg_zd_X6_plainCode_zd_X8_isDead_96_c (zg_zd_X6_plainCode_zd_X8_isDead_96_0)) (fun w h => ⟨(fun _ h => List.mem_cons_of_mem _ (List.mem_append_left _ (List.mem_append_right _ h))) w h, good_of_word (List.all_eq_true.mp zgw_X8 w h)⟩))
set_option maxRecDepth 100000 in
theorem zg_zd_X6_plainCode_zd_X3_addTemplate_117_a : GoodIn zw_zd_X6_plainCode [.methodLink RX6 117 yX3_addTemplate, .instanceMethod yX3_addTemplate, .selects RX3 yX3_addTemplate yX3_addTemplate, .initialized RX3] := goodIn_r _ [91, 92, 93, 12] rfl (by decide +kernel)
set_option maxRecDepth 100000 in
theorem zg_zd_X6_plainCode_zd_X3_addTemplate_117_c : GoodIn zw_zd_X6_plainCode [.code yX3_addTemplate cX3_addTemplate 6 none] := goodIn_r _ [68] rfl (by decide +kernel)
set_option maxRecDepth 100000 in
theorem zg_zd_X6_plainCode_zd_X3_addTemplate_117_0 : GoodIn zw_zd_X6_plainCode zw_zd_X3_addTemplate_w0 := goodIn_r _ [69, 58, 59, 60, 61, 62, 63, 70, 71, 72, 73, 74, 75, 76, 77, 78] rfl (by decide +kernel)
set_option maxRecDepth 100000 in
theorem zg_zd_X6_plainCode_zd_X3_addTemplate_117_1 : GoodIn zw_zd_X6_plainCode zw_zd_X3_addTemplate_w1 := goodIn_r _ [79, 64, 80, 81, 82, 83, 84, 3, 15, 85, 86, 87, 12, 88, 89, 90] rfl (by decide +kernel)
theorem zg_zd_X6_plainCode_zd_X3_addTemplate_117 : GoodIn zw_zd_X6_plainCode (wsV RX6 117 RX3 yX3_addTemplate zw_zd_X3_addTemplate) := goodIn_app zg_zd_X6_plainCode_zd_X3_addTemplate_117_a (goodIn_ca (a := ((zw_zd_X3_addTemplate_w0 ++ (zw_zd_X3_addTemplate_w1)) ++ wsX80)) (goodIn_ca (a := (zw_zd_X3_addTemplate_w0 ++ (zw_zd_X3_addTemplate_w1))) (show GoodIn zw_zd_X6_plainCode (.code yX3_addTemplate cX3_addTemplate 6 none :: (zw_zd_X3_addTemplate_w0 ++ (zw_zd_X3_addTemplate_w1))) from goodIn_app zg_zd_X6_plainCode_zd_X3_addTemplate_117_c (goodIn_app zg_zd_X6_plainCode_zd_X3_addTemplate_117_0 (zg_zd_X6_plainCode_zd_X3_addTemplate_117_1))) (fun w h => ⟨(fun _ h => List.mem_cons_of_mem _ (List.mem_append_left _ (List.mem_append_right _ h))) w h, good_of_word (List.all_eq_true.mp zgw_X8 w h)⟩)) (fun w h => ⟨(fun _ h => List.mem_cons_of_mem _ (List.mem_append_left _ (List.mem_append_left _ (List.mem_append_right _ h)))) w h, good_of_word (List.all_eq_true.mp zgw_X3 w h)⟩))
set_option maxHeartbeats 16000000 in
set_option maxRecDepth 100000 in
theorem zd_X6_plainCode (l : Launch) (D : va_G) (cI cZ cP cF : Nat) (q : Nat → Nat → Nat) (S : CST) (i1 : Nat) (sz : Nat) (Post : CST → Nat → Prop) (h : wp_X6_plainCode S i1 Post) (hcap : cCap S) : MetV l yX6_plainCode zw_zd_X6_plainCode ({ frames := 3, cells := rmc S, slots := rms S, locals := 106 }) (va_Pc [.ref (q 10 0), .ref (q 24 i1)] (fun U => U.heap.size = sz ∧ va_P D vwCl (cW cI cZ cP cF q S) U.heap ∧ zF D cI cZ cP cF U ∧ va_D (fun _ => True) (cW cI cZ cP cF q S))) (xQc (fun S' r => Post S' r) (fun (q' : Nat → Nat → Nat) (S' : CST) k n t => va_P D vwCl (cW cI cZ cP cF q' S') t.heap ∧ va_D (va_A (cW cI cZ cP cF q S) sz) (cW cI cZ cP cF q' S') ∧ cA q S q' S' k n) (va_A (cW cI cZ cP cF q S) sz)) (va_A (cW cI cZ cP cF q S) sz) := by
  unfold wp_X6_plainCode at h
  refine MetV.ofW (cc := cX6_plainCode) (maxL := 3) (ret := (some (.object "TemplateForge$Code"))) (by decide) rfl ?_
  intro p e s m args below meth c s₁ B hml hv
  obtain ⟨rfl, hsz, hP, hE, hD0⟩ := hv
  have hx := B.exec
  have hb := B.bytes
  have hr := B.returns
  have hts := atoms_spec (ws := zw_zd_X6_plainCode) B.pre
  have hown : s.vm.findClass RX6 = some m.cls := findClass_of_methodNamed B.named
  have hlocks := B.notSynchronized
  have hK := hE.k
  subst hsz
  have hD := hD0.self (sz := s.heap.size)
  generalize hAe : va_A (cW cI cZ cP cF q S) s.heap.size = A at hD ⊢
  have hA : ∀ q : Nat, s.heap.size ≤ q → A q := fun q h => by rw [← hAe]; exact Or.inr h
  have hl := lv_entry ([.ref (q 10 0), .ref (q 24 i1)]) (n := 3) (Nat.le_of_ble_eq_true rfl)
  rw [lg_entry_eq]
  generalize (lg_sl ([.ref (q 10 0), .ref (q 24 i1)]) ++ List.replicate (3 - (lg_sl ([.ref (q 10 0), .ref (q 24 i1)])).length) Slot.unset).toArray = ls at hl ⊢
  have hl : lv_has ls 3 [(0, .ref (q 10 0)), (1, .ref (q 24 i1))] := hl
  have key : ∀ (H : Heap) (locs : List Loc) (cells slots : Nat), va_P D vwCl (cW cI cZ cP cF q S) H → va_S A s.heap H locs → cA q S q S cells slots → W p l e (headSpec zw_zd_X6_plainCode ({ frames := 3, cells := rmc S, slots := rms S, locals := 106 })).room s m ([.ref (q 10 0), .ref (q 24 i1)] : List Value).toArray below meth c H locs cells slots (MQV below (xQc (fun S' r => Post S' r) (fun (q' : Nat → Nat → Nat) (S' : CST) k n t => va_P D vwCl (cW cI cZ cP cF q' S') t.heap ∧ va_D A (cW cI cZ cP cF q' S') ∧ cA q S q' S' k n) A) ([.ref (q 10 0), .ref (q 24 i1)] : List Value).toArray s A) (F0 m 0 ls []) := by
    intro H locs cells slots hP hS hN
    refine lv_aload_n hx hb dX6_plainCode_0 rfl (lv_at hl 0 rfl) ?_
    obtain ⟨p_1, hp_1⟩ := cget_10 cI cZ cP cF q S
    have hi_1 : cin S 10 0 := Or.inl ⟨by decide, rfl⟩
    refine va_get (D := D) (ci := 6) (v := .ref (q 7 0)) (C := RX6) (T := TX6) (N := 4) hx hb hts (fun _ h => List.mem_cons_of_mem _ (List.mem_append_left _ (List.mem_append_left _ (List.mem_append_left _ (List.mem_append_right _ h))))) hown hK hP p_1 hp_1 rfl 1 (by decide) (hts (.fieldLink RX6 19 "TemplateForge$Looker" "draft" "LTemplateForge$Draft;") (List.mem_of_getElem? (i := 1) rfl)) (fun _ h9 => h9) rfl dX6_plainCode_1 ?_
    obtain ⟨p_2, hp_2⟩ := cget_7 cI cZ cP cF q S
    have hi_2 : cin S 7 0 := Or.inl ⟨by decide, rfl⟩
    have hFc := zm_free hD hS hA
    refine va_callv (va_runV (As := []) (rest := []) ⟨hx, hb, hml, hown, hts⟩ (zd_X3_clear l D cI cZ cP cF q S  H.size _ h) (cwV 0 hts zg_zd_X6_plainCode_zd_X3_clear_108 rfl rfl rfl (by decide +kernel) ⟨Nat.le_of_ble_eq_true rfl, Nat.le_of_ble_eq_true rfl⟩) ⟨zCW, va_recv hK hP (ci := 3) (q0 := p_2) rfl hp_2, fun U hU hW => ⟨rfl, by rw [hU], by rw [hU]; exact hP, hE.warm hW, hD.weaken (fun _ _ _ _ => trivial)⟩⟩ rfl rfl hl.1 rfl (lv_room (Nat.le_of_ble_eq_true rfl)) dX6_plainCode_4 (cA_le hN)) hS (fun q _ h => hFc q h) hFc (fun S3 t H locs ht hvm h hB hz1 hk1 hS => ?_)
    obtain ⟨hP, hD1, hN1⟩ := hB
    rw [ht] at hP
    have hD := hD1.weaken (fun k q _ hq => hFc q.1 hq)
    have hN := cA_keep hN hN1
    refine lv_iconst (v := 0) hx hb dX6_plainCode_7 (by decide) ?_
    refine lv_istore_n (lv' := [(2, .int 0), (0, .ref (q 10 0)), (1, .ref (q 24 i1))]) hx hb dX6_plainCode_8 rfl hl (by decide) rfl (fun ls hl => ?_)
    have EX_9_48 : ∀ (q_48 : Nat → Nat → Nat) (S_48 : CST) (y48_1 : Nat) (H : Heap) (locs : List Loc) (cells slots : Nat) (ls : Array Slot), (cin S_48 24 y48_1 ∧ (cin S_48 24 y48_1 ∧ (wp_X3_finish S_48 0 0 (cv S_48 247 y48_1 0) (fun S9 r9 => Post S9 r9)))) → va_P D vwCl (cW cI cZ cP cF q_48 S_48) H → va_D A (cW cI cZ cP cF q_48 S_48) → va_S A s.heap H locs → cA q S q_48 S_48 cells slots → lv_has ls 3 [(0, .ref (q_48 10 0)), (1, .ref (q_48 24 y48_1))] → W p l e (headSpec zw_zd_X6_plainCode ({ frames := 3, cells := rmc S, slots := rms S, locals := 106 })).room s m ([.ref (q 10 0), .ref (q 24 i1)] : List Value).toArray below meth c H locs cells slots (MQV below (xQc (fun S' r => Post S' r) (fun (q' : Nat → Nat → Nat) (S' : CST) k n t => va_P D vwCl (cW cI cZ cP cF q' S') t.heap ∧ va_D A (cW cI cZ cP cF q' S') ∧ cA q S q' S' k n) A) ([.ref (q 10 0), .ref (q 24 i1)] : List Value).toArray s A) (F0 m 48 ls []) := by
      intro q_48 S_48 y48_1 H locs cells slots ls h hP hD hS hN hl
      refine lv_aload_n hx hb dX6_plainCode_48 rfl (lv_at hl 0 rfl) ?_
      obtain ⟨p_4, hp_4⟩ := cget_10 cI cZ cP cF q_48 S_48
      have hi_4 : cin S_48 10 0 := Or.inl ⟨by decide, rfl⟩
      refine va_get (D := D) (ci := 6) (v := .ref (q_48 7 0)) (C := RX6) (T := TX6) (N := 4) hx hb hts (fun _ h => List.mem_cons_of_mem _ (List.mem_append_left _ (List.mem_append_left _ (List.mem_append_left _ (List.mem_append_right _ h))))) hown hK hP p_4 hp_4 rfl 1 (by decide) (hts (.fieldLink RX6 19 "TemplateForge$Looker" "draft" "LTemplateForge$Draft;") (List.mem_of_getElem? (i := 1) rfl)) (fun _ h9 => h9) rfl dX6_plainCode_49 ?_
      refine lv_iconst (v := 0) hx hb dX6_plainCode_52 (by decide) ?_
      refine lv_iconst (v := 0) hx hb dX6_plainCode_53 (by decide) ?_
      refine lv_aload_n hx hb dX6_plainCode_54 rfl (lv_at hl 1 rfl) ?_
      have hi_5 := h.1
      have h := h.2
      obtain ⟨p_5, hp_5⟩ := cget_24 cI cZ cP cF q_48 S_48 hi_5
      refine va_get (D := D) (ci := 8) (v := .int (cv S_48 247 y48_1 0)) (C := RX8) (T := TX8) (N := 10) hx hb hts (fun _ h => List.mem_cons_of_mem _ (List.mem_append_left _ (List.mem_append_right _ h))) hown hK hP p_5 hp_5 rfl 7 (by decide) (hts (.fieldLink RX6 28 "TemplateForge$Program" "length" "I") (List.mem_of_getElem? (i := 13) rfl)) (fun _ h9 => h9) rfl dX6_plainCode_55 ?_
      obtain ⟨p_6, hp_6⟩ := cget_7 cI cZ cP cF q_48 S_48
      have hi_6 : cin S_48 7 0 := Or.inl ⟨by decide, rfl⟩
      have hc_8 := h.1
      have h := h.2
      have hFc := zm_free hD hS hA
      refine xc_c (z_runV (As := [.int 0, .int 0, .int (cv S_48 247 y48_1 0)]) (rest := []) ⟨hx, hb, hml, hown, hts⟩ (zd_X3_finish l D cI cZ cP cF q_48 S_48 0 0 (cv S_48 247 y48_1 0) H.size _ h (cA_cap hN)) (cwV 3 hts zg_zd_X6_plainCode_zd_X3_finish_121 rfl rfl rfl (by decide +kernel) ⟨Nat.le_of_ble_eq_true rfl, Nat.le_of_ble_eq_true rfl⟩) ⟨zCW, va_recv hK hP (ci := 3) (q0 := p_6) rfl hp_6, fun U hU hW => ⟨rfl, by rw [hU], by rw [hU]; exact hP, hE.warm hW, hD.weaken (fun _ _ _ _ => trivial)⟩⟩ rfl rfl hl.1 rfl (lv_room (Nat.le_of_ble_eq_true rfl)) dX6_plainCode_58 (cA_room hN)) hS (fun q _ h => hFc q h) hFc (fun r9 q9 S9 k n t H locs ht hvm h hB hz1 hk1 hS => ?_)
      obtain ⟨hP, hD1, hN1⟩ := hB
      rw [ht] at hP
      have hD := hD1.weaken (fun k q _ hq => hFc q.1 hq)
      have e_7 : q9 10 0 = q_48 10 0 := hN1.1 10 0 (Or.inl ⟨by decide, rfl⟩)
      have e_8 : q9 24 y48_1 = q_48 24 y48_1 := hN1.1 24 y48_1 hc_8
      have hN := cA_step hN hN1.1 hN1.2
      have hl : lv_has ls 3 [(0, .ref (q9 10 0)), (1, .ref (q9 24 y48_1))] := by simp only [e_7, e_8]; exact hl
      exact zV_c hx hb hr (fun t ht hW => ⟨⟨r9, q9, S9, rfl, h, by rw [ht]; exact hP, hD, hN⟩, hS.F ht⟩) hS.2.2 dX6_plainCode_61 hlocks
    have LP_9 : ∀ (n_9 : Nat), ∀ (q_9 : Nat → Nat → Nat) (S_9 : CST) (y9_1 : Nat) (x9_2 : Int32) (H : Heap) (locs : List Loc) (cells slots : Nat) (ls : Array Slot), wl_X6_plainCode_9 (fun S_48 y48_1 => cin S_48 24 y48_1 ∧ (cin S_48 24 y48_1 ∧ (wp_X3_finish S_48 0 0 (cv S_48 247 y48_1 0) (fun S9 r9 => Post S9 r9)))) Post n_9 S_9 y9_1 x9_2 → va_P D vwCl (cW cI cZ cP cF q_9 S_9) H → va_D A (cW cI cZ cP cF q_9 S_9) → va_S A s.heap H locs → cA q S q_9 S_9 cells slots → lv_has ls 3 [(0, .ref (q_9 10 0)), (1, .ref (q_9 24 y9_1)), (2, .int x9_2)] → W p l e (headSpec zw_zd_X6_plainCode ({ frames := 3, cells := rmc S, slots := rms S, locals := 106 })).room s m ([.ref (q 10 0), .ref (q 24 i1)] : List Value).toArray below meth c H locs cells slots (MQV below (xQc (fun S' r => Post S' r) (fun (q' : Nat → Nat → Nat) (S' : CST) k n t => va_P D vwCl (cW cI cZ cP cF q' S') t.heap ∧ va_D A (cW cI cZ cP cF q' S') ∧ cA q S q' S' k n) A) ([.ref (q 10 0), .ref (q 24 i1)] : List Value).toArray s A) (F0 m 9 ls []) := by
      intro n_9
      induction n_9 with
      | zero =>
        intro q_9 S_9 y9_1 x9_2 H locs cells slots ls h hP hD hS hN hl
        exact False.elim h
      | succ n_9 ih_9 =>
        intro q_9 S_9 y9_1 x9_2 H locs cells slots ls h hP hD hS hN hl
        unfold wl_X6_plainCode_9 at h
        refine lv_iload_n hx hb dX6_plainCode_9 rfl (lv_at hl 2 rfl) ?_
        refine lv_aload_n hx hb dX6_plainCode_10 rfl (lv_at hl 1 rfl) ?_
        have hi_10 := h.1
        have h := h.2
        obtain ⟨p_10, hp_10⟩ := cget_24 cI cZ cP cF q_9 S_9 hi_10
        refine va_get (D := D) (ci := 8) (v := .int (cv S_9 247 y9_1 0)) (C := RX8) (T := TX8) (N := 10) hx hb hts (fun _ h => List.mem_cons_of_mem _ (List.mem_append_left _ (List.mem_append_right _ h))) hown hK hP p_10 hp_10 rfl 7 (by decide) (hts (.fieldLink RX6 28 "TemplateForge$Program" "length" "I") (List.mem_of_getElem? (i := 13) rfl)) (fun _ h9 => h9) rfl dX6_plainCode_11 ?_
        refine lv_icmp_ge (tgt := 48) hx hb dX6_plainCode_14 (by decide) (fun c_11 => ?_) (fun c_11 => ?_)
        · have h := h.1 c_11
          exact EX_9_48  q_9 S_9 y9_1 H locs _ _ _ h hP hD hS hN (lv_sub hl [0, 1] rfl)
        · have h := h.2 c_11
          refine lv_aload_n hx hb dX6_plainCode_17 rfl (lv_at hl 0 rfl) ?_
          obtain ⟨p_12, hp_12⟩ := cget_10 cI cZ cP cF q_9 S_9
          have hi_12 : cin S_9 10 0 := Or.inl ⟨by decide, rfl⟩
          refine va_get (D := D) (ci := 6) (v := .ref (q_9 7 0)) (C := RX6) (T := TX6) (N := 4) hx hb hts (fun _ h => List.mem_cons_of_mem _ (List.mem_append_left _ (List.mem_append_left _ (List.mem_append_left _ (List.mem_append_right _ h))))) hown hK hP p_12 hp_12 rfl 1 (by decide) (hts (.fieldLink RX6 19 "TemplateForge$Looker" "draft" "LTemplateForge$Draft;") (List.mem_of_getElem? (i := 1) rfl)) (fun _ h9 => h9) rfl dX6_plainCode_18 ?_
          refine lv_iload_n hx hb dX6_plainCode_21 rfl (lv_at hl 2 rfl) ?_
          obtain ⟨p_13, hp_13⟩ := cget_7 cI cZ cP cF q_9 S_9
          have hi_13 : cin S_9 7 0 := Or.inl ⟨by decide, rfl⟩
          have hFc := zm_free hD hS hA
          refine va_callv (va_runV (As := [.int x9_2]) (rest := []) ⟨hx, hb, hml, hown, hts⟩ (zd_X3_begin l D cI cZ cP cF q_9 S_9 x9_2 H.size _ h) (cwV 1 hts zg_zd_X6_plainCode_zd_X3_begin_113 rfl rfl rfl (by decide +kernel) ⟨Nat.le_of_ble_eq_true rfl, Nat.le_of_ble_eq_true rfl⟩) ⟨zCW, va_recv hK hP (ci := 3) (q0 := p_13) rfl hp_13, fun U hU hW => ⟨rfl, by rw [hU], by rw [hU]; exact hP, hE.warm hW, hD.weaken (fun _ _ _ _ => trivial)⟩⟩ rfl rfl hl.1 rfl (lv_room (Nat.le_of_ble_eq_true rfl)) dX6_plainCode_22 (cA_le hN)) hS (fun q _ h => hFc q h) hFc (fun S14 t H locs ht hvm h hB hz1 hk1 hS => ?_)
          obtain ⟨hP, hD1, hN1⟩ := hB
          rw [ht] at hP
          have hD := hD1.weaken (fun k q _ hq => hFc q.1 hq)
          have hN := cA_keep hN hN1
          refine lv_aload_n hx hb dX6_plainCode_25 rfl (lv_at hl 1 rfl) ?_
          refine lv_iload_n hx hb dX6_plainCode_26 rfl (lv_at hl 2 rfl) ?_
          have hi_15 := h.1
          have h := h.2
          obtain ⟨p_15, hp_15⟩ := cget_24 cI cZ cP cF q_9 S14 hi_15
          refine vp_callSi (va_Run.run (va_runV (As := [.int x9_2]) (rest := []) ⟨hx, hb, hml, hown, hts⟩ (zd_X8_isDead l D cI cZ cP cF q_9 S14 y9_1 x9_2  _ h) (cwV 1 hts zg_zd_X6_plainCode_zd_X8_isDead_96 rfl rfl rfl (by decide +kernel) ⟨Nat.le_of_ble_eq_true rfl, Nat.le_of_ble_eq_true rfl⟩) ⟨zCR, va_recv hK hP (ci := 8) (q0 := p_15) rfl hp_15, fun U hU hW => ⟨rfl, by rw [hU]; exact hP, hE.warm hW⟩⟩ rfl rfl hl.1 rfl (lv_room (Nat.le_of_ble_eq_true rfl)) dX6_plainCode_27 (cA_le hN))) (fun r16 h => ?_)
          refine lv_if_ne (tgt := 42) hx hb dX6_plainCode_30 (by decide) (fun c_17 => ?_) (fun c_17 => ?_)
          · have h := h.1 c_17
            refine lv_iinc (v := x9_2 + 1) (lv' := [(2, .int (x9_2 + 1)), (0, .ref (q_9 10 0)), (1, .ref (q_9 24 y9_1))]) hx hb dX6_plainCode_42 hl (k := 2) rfl rfl (by decide) rfl (fun ls hl => ?_)
            refine lv_goto (tgt := 9) hx hb dX6_plainCode_45 (by decide) ?_
            exact ih_9  q_9 S14 y9_1 (x9_2 + 1) H locs _ _ _ h hP hD hS hN (lv_sub hl [1, 2, 0] rfl)
          · have h := h.2 c_17
            refine lv_aload_n hx hb dX6_plainCode_33 rfl (lv_at hl 0 rfl) ?_
            obtain ⟨p_18, hp_18⟩ := cget_10 cI cZ cP cF q_9 S14
            have hi_18 : cin S14 10 0 := Or.inl ⟨by decide, rfl⟩
            refine va_get (D := D) (ci := 6) (v := .ref (q_9 7 0)) (C := RX6) (T := TX6) (N := 4) hx hb hts (fun _ h => List.mem_cons_of_mem _ (List.mem_append_left _ (List.mem_append_left _ (List.mem_append_left _ (List.mem_append_right _ h))))) hown hK hP p_18 hp_18 rfl 1 (by decide) (hts (.fieldLink RX6 19 "TemplateForge$Looker" "draft" "LTemplateForge$Draft;") (List.mem_of_getElem? (i := 1) rfl)) (fun _ h9 => h9) rfl dX6_plainCode_34 ?_
            refine lv_aload_n hx hb dX6_plainCode_37 rfl (lv_at hl 1 rfl) ?_
            refine lv_iload_n hx hb dX6_plainCode_38 rfl (lv_at hl 2 rfl) ?_
            obtain ⟨p_19, hp_19⟩ := cget_7 cI cZ cP cF q_9 S14
            have hi_19 : cin S14 7 0 := Or.inl ⟨by decide, rfl⟩
            have hFc := zm_free hD hS hA
            refine va_callv (va_runV (As := [.ref (q_9 24 y9_1), .int x9_2]) (rest := []) ⟨hx, hb, hml, hown, hts⟩ (zd_X3_addTemplate l D cI cZ cP cF q_9 S14 y9_1 x9_2 H.size _ h) (cwV 2 hts zg_zd_X6_plainCode_zd_X3_addTemplate_117 rfl rfl rfl (by decide +kernel) ⟨Nat.le_of_ble_eq_true rfl, Nat.le_of_ble_eq_true rfl⟩) ⟨zCW, va_recv hK hP (ci := 3) (q0 := p_19) rfl hp_19, fun U hU hW => ⟨rfl, by rw [hU], by rw [hU]; exact hP, hE.warm hW, hD.weaken (fun _ _ _ _ => trivial)⟩⟩ rfl rfl hl.1 rfl (lv_room (Nat.le_of_ble_eq_true rfl)) dX6_plainCode_39 (cA_le hN)) hS (fun q _ h => hFc q h) hFc (fun S20 t H locs ht hvm h hB hz1 hk1 hS => ?_)
            obtain ⟨hP, hD1, hN1⟩ := hB
            rw [ht] at hP
            have hD := hD1.weaken (fun k q _ hq => hFc q.1 hq)
            have hN := cA_keep hN hN1
            refine lv_iinc (v := x9_2 + 1) (lv' := [(2, .int (x9_2 + 1)), (0, .ref (q_9 10 0)), (1, .ref (q_9 24 y9_1))]) hx hb dX6_plainCode_42 hl (k := 2) rfl rfl (by decide) rfl (fun ls hl => ?_)
            refine lv_goto (tgt := 9) hx hb dX6_plainCode_45 (by decide) ?_
            exact ih_9  q_9 S20 y9_1 (x9_2 + 1) H locs _ _ _ h hP hD hS hN (lv_sub hl [1, 2, 0] rfl)
    obtain ⟨n_9, h⟩ := h
    exact LP_9 n_9 q S3 i1 0 H locs _ _ _ h hP hD hS hN (lv_sub hl [1, 2, 0] rfl)
  exact key _ _ 0 0 hP va_S.rf (cA_rf hcap)

def wl_X6_goOver_61 (K_115 : CST → Nat → Prop) (K_77 : CST → Nat → Prop) (K_104 : CST → Int32 → Prop) (Post : CST → Int32 → Prop) : Nat → CST → Nat → Int32 → Prop
  | 0, _, _, _ => False
  | n_61 + 1, S_61, y61_1, x61_2 => ((60 ≤ x61_2) → ((K_115 S_61 y61_1))) ∧ ((¬ (60 ≤ x61_2)) → (wp_X6_leastWaiting S_61  (fun r31 => ((¬ ((r31 : Int32) = (-1))) → (vp_in r31 60 ∧ (∀ S35 : CST, S35 = cs S_61 110 0 (upd (cv S_61 110 0) (r31 : Int32).toNatClampNeg (vp_nar .boolean 0)) → (wp_X6_faultAt S35 y61_1 r31 (fun S37 r37 => ∀ S39 : CST, S39 = cs S37 103 0 (fun _ => r37) → (((((cv S39 103 0 0) : Int32) = 0) → (wl_X6_goOver_61 K_115 K_77 K_104 Post n_61 S39 y61_1 (x61_2 + 1))) ∧ ((¬ (((cv S39 103 0 0) : Int32) = 0)) → ((K_104 S39 r31))))))))) ∧ (((r31 : Int32) = (-1)) → ((K_77 S_61 y61_1))))))
def wj_X6_goOver_41 (S_41 : CST) (y41_1 : Nat) (Post : CST → Int32 → Prop) : Prop :=
  ((((cv S_41 103 0 0) : Int32) = 0) → (wp_X6_comes S_41 y41_1 0 0 (fun S4 r4 => ∃ n_61, wl_X6_goOver_61 (fun S_115 y115_1 => wp_X6_greatestDepth S_115 y115_1 (fun r6 => cin S_115 24 y115_1 ∧ (∀ S8 : CST, S8 = cs S_115 248 y115_1 (fun _ => r6) → (cin S8 24 y115_1 ∧ (wp_X6_plainCode S8 y115_1 (fun S12 r12 => cin S12 24 y115_1 ∧ r12 < 2147483648 ∧ (∀ S14 : CST, S14 = cs S12 249 y115_1 (fun _ => (nI r12)) → (cin S14 24 y115_1 ∧ (Post S14 (cv S14 248 y115_1 0)))))))))) (fun S_77 y77_1 => wp_X6_greatestDepth S_77 y77_1 (fun r18 => cin S_77 24 y77_1 ∧ (∀ S20 : CST, S20 = cs S_77 248 y77_1 (fun _ => r18) → (cin S20 24 y77_1 ∧ (wp_X6_plainCode S20 y77_1 (fun S24 r24 => cin S24 24 y77_1 ∧ r24 < 2147483648 ∧ (∀ S26 : CST, S26 = cs S24 249 y77_1 (fun _ => (nI r24)) → (cin S26 24 y77_1 ∧ (Post S26 (cv S26 248 y77_1 0)))))))))) (fun S_104 x104_3 => Post S_104 ((-100) - x104_3)) Post n_61 S4 y41_1 0))) ∧ ((¬ (((cv S_41 103 0 0) : Int32) = 0)) → (Post S_41 (-100)))
def wl_X6_goOver_6 (K_25 : CST → Nat → Prop) (Post : CST → Int32 → Prop) : Nat → CST → Nat → Int32 → Prop
  | 0, _, _, _ => False
  | n_6 + 1, S_6, y6_1, x6_2 => ((60 ≤ x6_2) → ((K_25 S_6 y6_1))) ∧ ((¬ (60 ≤ x6_2)) → (vp_in x6_2 60 ∧ (∀ S53 : CST, S53 = cs S_6 110 0 (upd (cv S_6 110 0) (x6_2 : Int32).toNatClampNeg (vp_nar .boolean 0)) → (wl_X6_goOver_6 K_25 Post n_6 S53 y6_1 (x6_2 + 1)))))
def wp_X6_goOver (S : CST) (i1 : Nat) (Post : CST → Int32 → Prop) : Prop :=
  cin S 24 i1 ∧ (wp_X8_forgetDepths S i1 (fun S43 => ∃ n_6, wl_X6_goOver_6 (fun S_25 y25_1 => cin S_25 24 y25_1 ∧ (((¬ (((cv S_25 247 y25_1 0) : Int32) = 0)) → (∀ S47 : CST, S47 = cs S_25 103 0 (fun _ => 0) → (wj_X6_goOver_41 S47 y25_1 Post))) ∧ ((((cv S_25 247 y25_1 0) : Int32) = 0) → (∀ S49 : CST, S49 = cs S_25 103 0 (fun _ => 5) → (wj_X6_goOver_41 S49 y25_1 Post))))) Post n_6 S43 i1 0))
def zw_zd_X6_goOver_w0 : List Cond := [.fieldLink RX6 32 "TemplateForge$Looker" "found" "I", .code yX6_comes cX6_comes 4 (some .boolean), .code yX8_isDead cX8_isDead 2 (some .boolean), .code yX8_has cX8_has 2 (some .boolean), .fieldLink RX8 41 "TemplateForge$Program" "length" "I", .methodLink RX8 44 yX8_has, .instanceMethod yX8_has, .selects RX8 yX8_has yX8_has, .initialized RX8, .fieldLink RX8 25 "TemplateForge$Program" "depths" "[I", .methodLink RX6 96 yX8_isDead, .instanceMethod yX8_isDead, .selects RX8 yX8_isDead yX8_isDead, .code yX8_depthAt cX8_depthAt 2 (some .int), .methodLink RX6 78 yX8_depthAt, .instanceMethod yX8_depthAt]
def zw_zd_X6_goOver_w1 : List Cond := [.selects RX8 yX8_depthAt yX8_depthAt, .code yX8_comeTo cX8_comeTo 3 none, .methodLink RX6 99 yX8_comeTo, .instanceMethod yX8_comeTo, .selects RX8 yX8_comeTo yX8_comeTo, .fieldLink RX6 9 "TemplateForge$Looker" "waiting" "[Z", .methodLink RX6 35 yX6_comes, .instanceMethod yX6_comes, .selects RX6 yX6_comes yX6_comes, .initialized RX6, .code yX6_greatestDepth cX6_greatestDepth 4 (some .int), .fieldLink RX6 28 "TemplateForge$Program" "length" "I", .methodLink RX6 103 Lib.Math.max.name, .static Lib.Math.max.name, .initialized "java/lang/Math", .code Lib.Math.max.name Lib.Math.max.code 2 (some .int)]
def zw_zd_X6_goOver_w2 : List Cond := [.methodLink RX6 47 yX6_greatestDepth, .instanceMethod yX6_greatestDepth, .selects RX6 yX6_greatestDepth yX6_greatestDepth, .fieldLink RX6 51 "TemplateForge$Program" "deepest" "I", .code yX6_plainCode cX6_plainCode 3 (some (.object "TemplateForge$Code")), .fieldLink RX6 19 "TemplateForge$Looker" "draft" "LTemplateForge$Draft;", .code yX3_clear cX3_clear 1 none, .fieldLink RX3 18 "TemplateForge$Draft" "parts" "I", .fieldLink RX3 15 "TemplateForge$Draft" "starts" "[I", .code yJ7_fill_53178 cJ7_fill_53178 4 none, .methodLink RX3 22 yJ7_fill_53178, .static yJ7_fill_53178, .initialized RJ7, .methodLink RX6 108 yX3_clear, .instanceMethod yX3_clear, .selects RX3 yX3_clear yX3_clear]
def zw_zd_X6_goOver_w3 : List Cond := [.initialized RX3, .code yX3_finish cX3_finish 5 (some (.object "TemplateForge$Code")), .fieldLink RX3 9 "TemplateForge$Draft" "cells" "[I", .methodLink RX3 48 Lib.Math.max.name, .code yJ7_copyOf_59c91 cJ7_copyOf_59c91 3 (some (.array .int)), .methodLink RJ7 316 ⟨"[I", "clone", "()Ljava/lang/Object;"⟩, .sameMethod "[I" "java/lang/Object" "clone" "()Ljava/lang/Object;", .native ⟨"java/lang/Object", "clone", "()Ljava/lang/Object;"⟩, .instanceMethod ⟨"java/lang/Object", "clone", "()Ljava/lang/Object;"⟩, .selects "[I" ⟨"[I", "clone", "()Ljava/lang/Object;"⟩ ⟨"java/lang/Object", "clone", "()Ljava/lang/Object;"⟩, .classLink RJ7 317 "[I", .arrayClass .int, .methodLink RJ7 304 Lib.Math.min.name, .static Lib.Math.min.name, .code Lib.Math.min.name Lib.Math.min.code 2 (some .int), .methodLink RJ7 150 arraycopyName]
def zw_zd_X6_goOver_w4 : List Cond := [.native arraycopyName, .static arraycopyName, .initialized "java/lang/System", .methodLink RX3 54 yJ7_copyOf_59c91, .static yJ7_copyOf_59c91, .classLink RX3 58 RX1, .instantiable RX1 4, .initialized RX1, .code yX1_init cX1_init 5 none, .methodLink RX1 3 objectInit, .instanceMethod objectInit, .code objectInit ⟨#[0xb1]⟩ 1 none, .fieldLink RX1 9 "TemplateForge$Code" "making" "I", .fieldLink RX1 15 "TemplateForge$Code" "heads" "I", .fieldLink RX1 18 "TemplateForge$Code" "cells" "[I", .fieldLink RX1 22 "TemplateForge$Code" "starts" "[I"]
def zw_zd_X6_goOver_w5 : List Cond := [.methodLink RX3 60 yX1_init, .instanceMethod yX1_init, .methodLink RX6 121 yX3_finish, .instanceMethod yX3_finish, .selects RX3 yX3_finish yX3_finish, .code yX3_begin cX3_begin 2 none, .methodLink RX6 113 yX3_begin, .instanceMethod yX3_begin, .selects RX3 yX3_begin yX3_begin, .code yX3_addTemplate cX3_addTemplate 6 none, .code yX8_opAt cX8_opAt 2 (some .int), .fieldLink RX8 18 "TemplateForge$Program" "ops" "[I", .methodLink RX3 28 yX8_opAt, .instanceMethod yX8_opAt, .selects RX8 yX8_opAt yX8_opAt, .code yX8_xAt cX8_xAt 2 (some .int)]
def zw_zd_X6_goOver_w6 : List Cond := [.fieldLink RX8 22 "TemplateForge$Program" "xs" "[I", .methodLink RX3 34 yX8_xAt, .instanceMethod yX8_xAt, .selects RX8 yX8_xAt yX8_xAt, .methodLink RX3 37 yX8_depthAt, .code yX3_addReckoning cX3_addReckoning 5 none, .code yX3_add cX3_add 7 none, .methodLink RX3 40 yX3_add, .instanceMethod yX3_add, .selects RX3 yX3_add yX3_add, .methodLink RX3 44 yX3_addReckoning, .instanceMethod yX3_addReckoning, .selects RX3 yX3_addReckoning yX3_addReckoning, .methodLink RX6 117 yX3_addTemplate, .instanceMethod yX3_addTemplate, .selects RX3 yX3_addTemplate yX3_addTemplate]
def zw_zd_X6_goOver_w7 : List Cond := [.methodLink RX6 54 yX6_plainCode, .instanceMethod yX6_plainCode, .selects RX6 yX6_plainCode yX6_plainCode, .fieldLink RX6 58 "TemplateForge$Program" "plain" "LTemplateForge$Code;", .code yX6_leastWaiting cX6_leastWaiting 2 (some .int), .methodLink RX6 39 yX6_leastWaiting, .instanceMethod yX6_leastWaiting, .selects RX6 yX6_leastWaiting yX6_leastWaiting, .code yX6_faultAt cX6_faultAt 7 (some .int), .methodLink RX6 62 yX8_opAt, .methodLink RX6 66 yX8_xAt, .fieldLink RX6 15 "TemplateForge$Looker" "book" "LTemplateForge$Book;", .code yX0_taken cX0_taken 4 (some .int), .code yX0_at cX0_at 2 (some (.object "TemplateForge$Program")), .fieldLink RX0 17 "TemplateForge$Book" "told" "I", .fieldLink RX0 11 "TemplateForge$Book" "programs" "[LTemplateForge$Program;"]
def zw_zd_X6_goOver_w8 : List Cond := [.methodLink RX0 24 yX0_at, .instanceMethod yX0_at, .selects RX0 yX0_at yX0_at, .initialized RX0, .fieldLink RX0 32 "TemplateForge$Program" "args" "I", .methodLink RX6 69 yX0_taken, .instanceMethod yX0_taken, .selects RX0 yX0_taken yX0_taken, .code yX6_isRightX cX6_isRightX 4 (some .boolean), .fieldLink RX6 89 "TemplateForge$Program" "locals" "I", .methodLink RX6 92 yX0_at, .methodLink RX6 75 yX6_isRightX, .instanceMethod yX6_isRightX, .selects RX6 yX6_isRightX yX6_isRightX, .methodLink RX6 85 yX8_has, .methodLink RX6 43 yX6_faultAt]
def zw_zd_X6_goOver_w9 : List Cond := [.instanceMethod yX6_faultAt, .selects RX6 yX6_faultAt yX6_faultAt, .code yX8_forgetDepths cX8_forgetDepths 1 none, .methodLink RX8 55 yJ7_fill_53178, .methodLink RX6 23 yX8_forgetDepths, .instanceMethod yX8_forgetDepths, .selects RX8 yX8_forgetDepths yX8_forgetDepths]
def zw_zd_X6_goOver : List Cond := .code yX6_goOver cX6_goOver 4 (some .int) :: ((zw_zd_X6_goOver_w0 ++ (zw_zd_X6_goOver_w1 ++ (zw_zd_X6_goOver_w2 ++ (zw_zd_X6_goOver_w3 ++ (zw_zd_X6_goOver_w4 ++ (zw_zd_X6_goOver_w5 ++ (zw_zd_X6_goOver_w6 ++ (zw_zd_X6_goOver_w7 ++ (zw_zd_X6_goOver_w8 ++ (zw_zd_X6_goOver_w9)))))))))) ++ wsX60 ++ wsX80 ++ wsX30 ++ wsX10 ++ wsX00)
set_option maxRecDepth 100000 in
theorem zg_zd_X6_goOver_zd_X6_comes_35_a : GoodIn zw_zd_X6_goOver [.methodLink RX6 35 yX6_comes, .instanceMethod yX6_comes, .selects RX6 yX6_comes yX6_comes, .initialized RX6] := goodIn_r _ [23, 24, 25, 26] rfl (by decide +kernel)
set_option maxRecDepth 100000 in
theorem zg_zd_X6_goOver_zd_X6_comes_35_c : GoodIn zw_zd_X6_goOver [.code yX6_comes cX6_comes 4 (some .boolean)] := goodIn_r _ [2] rfl (by decide +kernel)
set_option maxRecDepth 100000 in
theorem zg_zd_X6_goOver_zd_X6_comes_35_0 : GoodIn zw_zd_X6_goOver zw_zd_X6_comes_w0 := goodIn_r _ [3, 4, 5, 6, 7, 8, 9, 10, 11, 12, 13, 14, 15, 16, 17, 18] rfl (by decide +kernel)
set_option maxRecDepth 100000 in
theorem zg_zd_X6_goOver_zd_X6_comes_35_1 : GoodIn zw_zd_X6_goOver zw_zd_X6_comes_w1 := goodIn_r _ [19, 20, 21, 22] rfl (by decide +kernel)
theorem zg_zd_X6_goOver_zd_X6_comes_35 : GoodIn zw_zd_X6_goOver (wsV RX6 35 RX6 yX6_comes zw_zd_X6_comes) := goodIn_app zg_zd_X6_goOver_zd_X6_comes_35_a (goodIn_ca (a := ((zw_zd_X6_comes_w0 ++ (zw_zd_X6_comes_w1)) ++ wsX80)) (goodIn_ca (a := (zw_zd_X6_comes_w0 ++ (zw_zd_X6_comes_w1))) (show GoodIn zw_zd_X6_goOver (.code yX6_comes cX6_comes 4 (some .boolean) :: (zw_zd_X6_comes_w0 ++ (zw_zd_X6_comes_w1))) from goodIn_app zg_zd_X6_goOver_zd_X6_comes_35_c (goodIn_app zg_zd_X6_goOver_zd_X6_comes_35_0 (zg_zd_X6_goOver_zd_X6_comes_35_1))) (fun w h => ⟨(fun _ h => List.mem_cons_of_mem _ (List.mem_append_left _ (List.mem_append_left _ (List.mem_append_left _ (List.mem_append_right _ h))))) w h, good_of_word (List.all_eq_true.mp zgw_X8 w h)⟩)) (fun w h => ⟨(fun _ h => List.mem_cons_of_mem _ (List.mem_append_left _ (List.mem_append_left _ (List.mem_append_left _ (List.mem_append_left _ (List.mem_append_right _ h)))))) w h, good_of_word (List.all_eq_true.mp zgw_X6 w h)⟩))
set_option maxRecDepth 100000 in
theorem zg_zd_X6_goOver_zd_X6_greatestDepth_47_a : GoodIn zw_zd_X6_goOver [.methodLink RX6 47 yX6_greatestDepth, .instanceMethod yX6_greatestDepth, .selects RX6 yX6_greatestDepth yX6_greatestDepth, .initialized RX6] := goodIn_r _ [33, 34, 35, 26] rfl (by decide +kernel)
set_option maxRecDepth 100000 in
theorem zg_zd_X6_goOver_zd_X6_greatestDepth_47_c : GoodIn zw_zd_X6_goOver [.code yX6_greatestDepth cX6_greatestDepth 4 (some .int)] := goodIn_r _ [27] rfl (by decide +kernel)
set_option maxRecDepth 100000 in
theorem zg_zd_X6_goOver_zd_X6_greatestDepth_47_0 : GoodIn zw_zd_X6_goOver zw_zd_X6_greatestDepth_w0 := goodIn_r _ [28, 14, 4, 5, 6, 7, 8, 9, 10, 15, 16, 17, 29, 30, 31, 32] rfl (by decide +kernel)
theorem zg_zd_X6_goOver_zd_X6_greatestDepth_47 : GoodIn zw_zd_X6_goOver (wsV RX6 47 RX6 yX6_greatestDepth zw_zd_X6_greatestDepth) := goodIn_app zg_zd_X6_goOver_zd_X6_greatestDepth_47_a (goodIn_ca (a := (zw_zd_X6_greatestDepth_w0)) (show GoodIn zw_zd_X6_goOver (.code yX6_greatestDepth cX6_greatestDepth 4 (some .int) :: (zw_zd_X6_greatestDepth_w0)) from goodIn_app zg_zd_X6_goOver_zd_X6_greatestDepth_47_c (zg_zd_X6_goOver_zd_X6_greatestDepth_47_0)) (fun w h => ⟨(fun _ h => List.mem_cons_of_mem _ (List.mem_append_left _ (List.mem_append_left _ (List.mem_append_left _ (List.mem_append_right _ h))))) w h, good_of_word (List.all_eq_true.mp zgw_X8 w h)⟩))
set_option maxRecDepth 100000 in
theorem zg_zd_X6_goOver_zd_X6_plainCode_54_a : GoodIn zw_zd_X6_goOver [.methodLink RX6 54 yX6_plainCode, .instanceMethod yX6_plainCode, .selects RX6 yX6_plainCode yX6_plainCode, .initialized RX6] := goodIn_r _ [113, 114, 115, 26] rfl (by decide +kernel)
set_option maxRecDepth 100000 in
theorem zg_zd_X6_goOver_zd_X6_plainCode_54_c : GoodIn zw_zd_X6_goOver [.code yX6_plainCode cX6_plainCode 3 (some (.object "TemplateForge$Code"))] := goodIn_r _ [37] rfl (by decide +kernel)
set_option maxRecDepth 100000 in
theorem zg_zd_X6_goOver_zd_X6_plainCode_54_0 : GoodIn zw_zd_X6_goOver zw_zd_X6_plainCode_w0 := goodIn_r _ [38, 39, 40, 41, 42, 43, 44, 45, 46, 47, 48, 49, 28, 50, 51, 52] rfl (by decide +kernel)
set_option maxRecDepth 100000 in
theorem zg_zd_X6_goOver_zd_X6_plainCode_54_1 : GoodIn zw_zd_X6_goOver zw_zd_X6_plainCode_w1 := goodIn_r _ [30, 31, 32, 53, 54, 55, 56, 57, 58, 59, 60, 61, 62, 63, 64, 65] rfl (by decide +kernel)
set_option maxRecDepth 100000 in
theorem zg_zd_X6_goOver_zd_X6_plainCode_54_2 : GoodIn zw_zd_X6_goOver zw_zd_X6_plainCode_w2 := goodIn_r _ [66, 67, 68, 69, 70, 71, 72, 73, 74, 75, 76, 77, 78, 79, 80, 81] rfl (by decide +kernel)
set_option maxRecDepth 100000 in
theorem zg_zd_X6_goOver_zd_X6_plainCode_54_3 : GoodIn zw_zd_X6_goOver zw_zd_X6_plainCode_w3 := goodIn_r _ [82, 83, 84, 85, 86, 87, 88, 89, 3, 4, 5, 6, 7, 8, 9, 10] rfl (by decide +kernel)
set_option maxRecDepth 100000 in
theorem zg_zd_X6_goOver_zd_X6_plainCode_54_4 : GoodIn zw_zd_X6_goOver zw_zd_X6_plainCode_w4 := goodIn_r _ [11, 12, 13, 90, 91, 92, 93, 94, 95, 96, 97, 98, 99, 100, 14, 101] rfl (by decide +kernel)
set_option maxRecDepth 100000 in
theorem zg_zd_X6_goOver_zd_X6_plainCode_54_5 : GoodIn zw_zd_X6_goOver zw_zd_X6_plainCode_w5 := goodIn_r _ [16, 17, 102, 103, 104, 105, 106, 107, 108, 109, 110, 111, 112] rfl (by decide +kernel)
theorem zg_zd_X6_goOver_zd_X6_plainCode_54 : GoodIn zw_zd_X6_goOver (wsV RX6 54 RX6 yX6_plainCode zw_zd_X6_plainCode) := goodIn_app zg_zd_X6_goOver_zd_X6_plainCode_54_a (goodIn_ca (a := ((((zw_zd_X6_plainCode_w0 ++ (zw_zd_X6_plainCode_w1 ++ (zw_zd_X6_plainCode_w2 ++ (zw_zd_X6_plainCode_w3 ++ (zw_zd_X6_plainCode_w4 ++ (zw_zd_X6_plainCode_w5)))))) ++ wsX60) ++ wsX30) ++ wsX80)) (goodIn_ca (a := (((zw_zd_X6_plainCode_w0 ++ (zw_zd_X6_plainCode_w1 ++ (zw_zd_X6_plainCode_w2 ++ (zw_zd_X6_plainCode_w3 ++ (zw_zd_X6_plainCode_w4 ++ (zw_zd_X6_plainCode_w5)))))) ++ wsX60) ++ wsX30)) (goodIn_ca (a := ((zw_zd_X6_plainCode_w0 ++ (zw_zd_X6_plainCode_w1 ++ (zw_zd_X6_plainCode_w2 ++ (zw_zd_X6_plainCode_w3 ++ (zw_zd_X6_plainCode_w4 ++ (zw_zd_X6_plainCode_w5)))))) ++ wsX60)) (goodIn_ca (a := (zw_zd_X6_plainCode_w0 ++ (zw_zd_X6_plainCode_w1 ++ (zw_zd_X6_plainCode_w2 ++ (zw_zd_X6_plainCode_w3 ++ (zw_zd_X6_plainCode_w4 ++ (zw_zd_X6_plainCode_w5))))))) (show GoodIn zw_zd_X6_goOver (.code yX6_plainCode cX6_plainCode 3 (some (.object "TemplateForge$Code")) :: (zw_zd_X6_plainCode_w0 ++ (zw_zd_X6_plainCode_w1 ++ (zw_zd_X6_plainCode_w2 ++ (zw_zd_X6_plainCode_w3 ++ (zw_zd_X6_plainCode_w4 ++ (zw_zd_X6_plainCode_w5))))))) from goodIn_app zg_zd_X6_goOver_zd_X6_plainCode_54_c (goodIn_app zg_zd_X6_goOver_zd_X6_plainCode_54_0 (goodIn_app zg_zd_X6_goOver_zd_X6_plainCode_54_1 (goodIn_app zg_zd_X6_goOver_zd_X6_plainCode_54_2 (goodIn_app zg_zd_X6_goOver_zd_X6_plainCode_54_3 (goodIn_app zg_zd_X6_goOver_zd_X6_plainCode_54_4 (zg_zd_X6_goOver_zd_X6_plainCode_54_5))))))) (fun w h => ⟨(fun _ h => List.mem_cons_of_mem _ (List.mem_append_left _ (List.mem_append_left _ (List.mem_append_left _ (List.mem_append_left _ (List.mem_append_right _ h)))))) w h, good_of_word (List.all_eq_true.mp zgw_X6 w h)⟩)) (fun w h => ⟨(fun _ h => List.mem_cons_of_mem _ (List.mem_append_left _ (List.mem_append_left _ (List.mem_append_right _ h)))) w h, good_of_word (List.all_eq_true.mp zgw_X3 w h)⟩)) (fun w h => ⟨(fun _ h => List.mem_cons_of_mem _ (List.mem_append_left _ (List.mem_append_left _ (List.mem_append_left _ (List.mem_append_right _ h))))) w h, good_of_word (List.all_eq_true.mp zgw_X8 w h)⟩)) (fun w h => ⟨(fun _ h => List.mem_cons_of_mem _ (List.mem_append_left _ (List.mem_append_right _ h))) w h, good_of_word (List.all_eq_true.mp zgw_X1 w h)⟩))
set_option maxRecDepth 100000 in
theorem zg_zd_X6_goOver_zd_X6_leastWaiting_39_a : GoodIn zw_zd_X6_goOver [.methodLink RX6 39 yX6_leastWaiting, .instanceMethod yX6_leastWaiting, .selects RX6 yX6_leastWaiting yX6_leastWaiting, .initialized RX6] := goodIn_r _ [118, 119, 120, 26] rfl (by decide +kernel)
set_option maxRecDepth 100000 in
theorem zg_zd_X6_goOver_zd_X6_leastWaiting_39_c : GoodIn zw_zd_X6_goOver [.code yX6_leastWaiting cX6_leastWaiting 2 (some .int)] := goodIn_r _ [117] rfl (by decide +kernel)
set_option maxRecDepth 100000 in
theorem zg_zd_X6_goOver_zd_X6_leastWaiting_39_0 : GoodIn zw_zd_X6_goOver zw_zd_X6_leastWaiting_w0 := goodIn_r _ [22] rfl (by decide +kernel)
theorem zg_zd_X6_goOver_zd_X6_leastWaiting_39 : GoodIn zw_zd_X6_goOver (wsV RX6 39 RX6 yX6_leastWaiting zw_zd_X6_leastWaiting) := goodIn_app zg_zd_X6_goOver_zd_X6_leastWaiting_39_a (goodIn_ca (a := (zw_zd_X6_leastWaiting_w0)) (show GoodIn zw_zd_X6_goOver (.code yX6_leastWaiting cX6_leastWaiting 2 (some .int) :: (zw_zd_X6_leastWaiting_w0)) from goodIn_app zg_zd_X6_goOver_zd_X6_leastWaiting_39_c (zg_zd_X6_goOver_zd_X6_leastWaiting_39_0)) (fun w h => ⟨(fun _ h => List.mem_cons_of_mem _ (List.mem_append_left _ (List.mem_append_left _ (List.mem_append_left _ (List.mem_append_left _ (List.mem_append_right _ h)))))) w h, good_of_word (List.all_eq_true.mp zgw_X6 w h)⟩))
set_option maxRecDepth 100000 in
theorem zg_zd_X6_goOver_zd_X6_faultAt_43_a : GoodIn zw_zd_X6_goOver [.methodLink RX6 43 yX6_faultAt, .instanceMethod yX6_faultAt, .selects RX6 yX6_faultAt yX6_faultAt, .initialized RX6] := goodIn_r _ [144, 145, 146, 26] rfl (by decide +kernel)
set_option maxRecDepth 100000 in
theorem zg_zd_X6_goOver_zd_X6_faultAt_43_c : GoodIn zw_zd_X6_goOver [.code yX6_faultAt cX6_faultAt 7 (some .int)] := goodIn_r _ [121] rfl (by decide +kernel)
set_option maxRecDepth 100000 in
theorem zg_zd_X6_goOver_zd_X6_faultAt_43_0 : GoodIn zw_zd_X6_goOver zw_zd_X6_faultAt_w0 := goodIn_r _ [91, 4, 5, 6, 7, 8, 9, 92, 122, 94, 95, 96, 97, 123, 99, 100] rfl (by decide +kernel)
set_option maxRecDepth 100000 in
theorem zg_zd_X6_goOver_zd_X6_faultAt_43_1 : GoodIn zw_zd_X6_goOver zw_zd_X6_faultAt_w1 := goodIn_r _ [124, 125, 126, 127, 128, 129, 130, 131, 132, 133, 134, 135, 136, 137, 138, 139] rfl (by decide +kernel)
set_option maxRecDepth 100000 in
theorem zg_zd_X6_goOver_zd_X6_faultAt_43_2 : GoodIn zw_zd_X6_goOver zw_zd_X6_faultAt_w2 := goodIn_r _ [140, 141, 142, 26, 14, 10, 15, 16, 17, 143, 2, 3, 11, 12, 13, 18] rfl (by decide +kernel)
set_option maxRecDepth 100000 in
theorem zg_zd_X6_goOver_zd_X6_faultAt_43_3 : GoodIn zw_zd_X6_goOver zw_zd_X6_faultAt_w3 := goodIn_r _ [19, 20, 21, 22, 23, 24, 25] rfl (by decide +kernel)
theorem zg_zd_X6_goOver_zd_X6_faultAt_43 : GoodIn zw_zd_X6_goOver (wsV RX6 43 RX6 yX6_faultAt zw_zd_X6_faultAt) := goodIn_app zg_zd_X6_goOver_zd_X6_faultAt_43_a (goodIn_ca (a := (((zw_zd_X6_faultAt_w0 ++ (zw_zd_X6_faultAt_w1 ++ (zw_zd_X6_faultAt_w2 ++ (zw_zd_X6_faultAt_w3)))) ++ wsX80) ++ wsX60)) (goodIn_ca (a := ((zw_zd_X6_faultAt_w0 ++ (zw_zd_X6_faultAt_w1 ++ (zw_zd_X6_faultAt_w2 ++ (zw_zd_X6_faultAt_w3)))) ++ wsX80)) (goodIn_ca (a := (zw_zd_X6_faultAt_w0 ++ (zw_zd_X6_faultAt_w1 ++ (zw_zd_X6_faultAt_w2 ++ (zw_zd_X6_faultAt_w3))))) (show GoodIn zw_zd_X6_goOver (.code yX6_faultAt cX6_faultAt 7 (some .int) :: (zw_zd_X6_faultAt_w0 ++ (zw_zd_X6_faultAt_w1 ++ (zw_zd_X6_faultAt_w2 ++ (zw_zd_X6_faultAt_w3))))) from goodIn_app zg_zd_X6_goOver_zd_X6_faultAt_43_c (goodIn_app zg_zd_X6_goOver_zd_X6_faultAt_43_0 (goodIn_app zg_zd_X6_goOver_zd_X6_faultAt_43_1 (goodIn_app zg_zd_X6_goOver_zd_X6_faultAt_43_2 (zg_zd_X6_goOver_zd_X6_faultAt_43_3))))) (fun w h => ⟨(fun _ h => List.mem_cons_of_mem _ (List.mem_append_left _ (List.mem_append_left _ (List.mem_append_left _ (List.mem_append_right _ h))))) w h, good_of_word (List.all_eq_true.mp zgw_X8 w h)⟩)) (fun w h => ⟨(fun _ h => List.mem_cons_of_mem _ (List.mem_append_left _ (List.mem_append_left _ (List.mem_append_left _ (List.mem_append_left _ (List.mem_append_right _ h)))))) w h, good_of_word (List.all_eq_true.mp zgw_X6 w h)⟩)) (fun w h => ⟨(fun _ h => List.mem_cons_of_mem _ (List.mem_append_right _ h)) w h, good_of_word (List.all_eq_true.mp zgw_X0 w h)⟩))
set_option maxRecDepth 100000 in
theorem zg_zd_X6_goOver_zd_X8_forgetDepths_23_a : GoodIn zw_zd_X6_goOver [.methodLink RX6 23 yX8_forgetDepths, .instanceMethod yX8_forgetDepths, .selects RX8 yX8_forgetDepths yX8_forgetDepths, .initialized RX8] := goodIn_r _ [149, 150, 151, 9] rfl (by decide +kernel)
set_option maxRecDepth 100000 in
theorem zg_zd_X6_goOver_zd_X8_forgetDepths_23_c : GoodIn zw_zd_X6_goOver [.code yX8_forgetDepths cX8_forgetDepths 1 none] := goodIn_r _ [147] rfl (by decide +kernel)
set_option maxRecDepth 100000 in
theorem zg_zd_X6_goOver_zd_X8_forgetDepths_23_0 : GoodIn zw_zd_X6_goOver zw_zd_X8_forgetDepths_w0 := goodIn_r _ [10, 42, 148, 44, 45] rfl (by decide +kernel)
theorem zg_zd_X6_goOver_zd_X8_forgetDepths_23 : GoodIn zw_zd_X6_goOver (wsV RX6 23 RX8 yX8_forgetDepths zw_zd_X8_forgetDepths) := goodIn_app zg_zd_X6_goOver_zd_X8_forgetDepths_23_a (goodIn_ca (a := (zw_zd_X8_forgetDepths_w0)) (show GoodIn zw_zd_X6_goOver (.code yX8_forgetDepths cX8_forgetDepths 1 none :: (zw_zd_X8_forgetDepths_w0)) from goodIn_app zg_zd_X6_goOver_zd_X8_forgetDepths_23_c (zg_zd_X6_goOver_zd_X8_forgetDepths_23_0)) (fun w h => ⟨(fun _ h => List.mem_cons_of_mem _ (List.mem_append_left _ (List.mem_append_left _ (List.mem_append_left _ (List.mem_append_right _ h))))) w h, good_of_word (List.all_eq_true.mp zgw_X8 w h)⟩))
set_option maxHeartbeats 16000000 in
set_option maxRecDepth 100000 in
theorem zd_X6_goOver (l : Launch) (D : va_G) (cI cZ cP cF : Nat) (q : Nat → Nat → Nat) (S : CST) (i1 : Nat) (sz : Nat) (Post : CST → Int32 → Prop) (h : wp_X6_goOver S i1 Post) (hcap : cCap S) : MetV l yX6_goOver zw_zd_X6_goOver ({ frames := 4, cells := rmc S, slots := rms S, locals := 128 }) (va_Pc [.ref (q 10 0), .ref (q 24 i1)] (fun U => U.heap.size = sz ∧ va_P D vwCl (cW cI cZ cP cF q S) U.heap ∧ zF D cI cZ cP cF U ∧ va_D (fun _ => True) (cW cI cZ cP cF q S) ∧ zT (zNm (cW cI cZ cP cF q S)) U U.heap)) (xQi (fun S' r => Post S' r) (fun (q' : Nat → Nat → Nat) (S' : CST) k n t => va_P D vwCl (cW cI cZ cP cF q' S') t.heap ∧ va_D (va_A (cW cI cZ cP cF q S) sz) (cW cI cZ cP cF q' S') ∧ cA q S q' S' k n) (va_A (cW cI cZ cP cF q S) sz)) (va_A (cW cI cZ cP cF q S) sz) := by
  unfold wp_X6_goOver at h
  refine MetV.ofW (cc := cX6_goOver) (maxL := 4) (ret := (some .int)) (by decide) rfl ?_
  intro p e s m args below meth c s₁ B hml hv
  obtain ⟨rfl, hsz, hP, hE, hD0, hT0⟩ := hv
  have hx := B.exec
  have hb := B.bytes
  have hr := B.returns
  have hts := atoms_spec (ws := zw_zd_X6_goOver) B.pre
  have hown : s.vm.findClass RX6 = some m.cls := findClass_of_methodNamed B.named
  have hlocks := B.notSynchronized
  have hK := hE.k
  subst hsz
  have hD := hD0.self (sz := s.heap.size)
  have hT := zT_self hT0
  generalize hAe : va_A (cW cI cZ cP cF q S) s.heap.size = A at hD hT ⊢
  have hA : ∀ q : Nat, s.heap.size ≤ q → A q := fun q h => by rw [← hAe]; exact Or.inr h
  have hl := lv_entry ([.ref (q 10 0), .ref (q 24 i1)]) (n := 4) (Nat.le_of_ble_eq_true rfl)
  rw [lg_entry_eq]
  generalize (lg_sl ([.ref (q 10 0), .ref (q 24 i1)]) ++ List.replicate (4 - (lg_sl ([.ref (q 10 0), .ref (q 24 i1)])).length) Slot.unset).toArray = ls at hl ⊢
  have hl : lv_has ls 4 [(0, .ref (q 10 0)), (1, .ref (q 24 i1))] := hl
  have key : ∀ (H : Heap) (locs : List Loc) (cells slots : Nat), va_P D vwCl (cW cI cZ cP cF q S) H → va_S A s.heap H locs → cA q S q S cells slots → W p l e (headSpec zw_zd_X6_goOver ({ frames := 4, cells := rmc S, slots := rms S, locals := 128 })).room s m ([.ref (q 10 0), .ref (q 24 i1)] : List Value).toArray below meth c H locs cells slots (MQV below (xQi (fun S' r => Post S' r) (fun (q' : Nat → Nat → Nat) (S' : CST) k n t => va_P D vwCl (cW cI cZ cP cF q' S') t.heap ∧ va_D A (cW cI cZ cP cF q' S') ∧ cA q S q' S' k n) A) ([.ref (q 10 0), .ref (q 24 i1)] : List Value).toArray s A) (F0 m 0 ls []) := by
    intro H locs cells slots hP hS hN
    have J_41 : ∀ (q_41 : Nat → Nat → Nat) (S_41 : CST) (y41_1 : Nat) (H : Heap) (locs : List Loc) (cells slots : Nat) (ls : Array Slot), wj_X6_goOver_41 S_41 y41_1 Post → va_P D vwCl (cW cI cZ cP cF q_41 S_41) H → va_D A (cW cI cZ cP cF q_41 S_41) → va_S A s.heap H locs → cA q S q_41 S_41 cells slots → lv_has ls 4 [(0, .ref (q_41 10 0)), (1, .ref (q_41 24 y41_1))] → W p l e (headSpec zw_zd_X6_goOver ({ frames := 4, cells := rmc S, slots := rms S, locals := 128 })).room s m ([.ref (q 10 0), .ref (q 24 i1)] : List Value).toArray below meth c H locs cells slots (MQV below (xQi (fun S' r => Post S' r) (fun (q' : Nat → Nat → Nat) (S' : CST) k n t => va_P D vwCl (cW cI cZ cP cF q' S') t.heap ∧ va_D A (cW cI cZ cP cF q' S') ∧ cA q S q' S' k n) A) ([.ref (q 10 0), .ref (q 24 i1)] : List Value).toArray s A) (F0 m 41 ls []) := by
      intro q_41 S_41 y41_1 H locs cells slots ls h hP hD hS hN hl
      unfold wj_X6_goOver_41 at h
      refine lv_aload_n hx hb dX6_goOver_41 rfl (lv_at hl 0 rfl) ?_
      obtain ⟨p_1, hp_1⟩ := cget_10 cI cZ cP cF q_41 S_41
      have hi_1 : cin S_41 10 0 := Or.inl ⟨by decide, rfl⟩
      refine va_get (D := D) (ci := 6) (v := .int (cv S_41 103 0 0)) (C := RX6) (T := TX6) (N := 4) hx hb hts (fun _ h => List.mem_cons_of_mem _ (List.mem_append_left _ (List.mem_append_left _ (List.mem_append_left _ (List.mem_append_left _ (List.mem_append_right _ h)))))) hown hK hP p_1 hp_1 rfl 3 (by decide) (hts (.fieldLink RX6 32 "TemplateForge$Looker" "found" "I") (List.mem_of_getElem? (i := 1) rfl)) (fun _ h9 => h9) rfl dX6_goOver_42 ?_
      refine lv_if_eq (tgt := 51) hx hb dX6_goOver_45 (by decide) (fun c_2 => ?_) (fun c_2 => ?_)
      · have h := h.1 c_2
        refine lv_aload_n hx hb dX6_goOver_51 rfl (lv_at hl 0 rfl) ?_
        refine lv_aload_n hx hb dX6_goOver_52 rfl (lv_at hl 1 rfl) ?_
        refine lv_iconst (v := 0) hx hb dX6_goOver_53 (by decide) ?_
        refine lv_iconst (v := 0) hx hb dX6_goOver_54 (by decide) ?_
        obtain ⟨p_3, hp_3⟩ := cget_10 cI cZ cP cF q_41 S_41
        have hi_3 : cin S_41 10 0 := Or.inl ⟨by decide, rfl⟩
        have hFc := zm_free hD hS hA
        refine va_calli (va_runV (As := [.ref (q_41 24 y41_1), .int 0, .int 0]) (rest := []) ⟨hx, hb, hml, hown, hts⟩ (zd_X6_comes l D cI cZ cP cF q_41 S_41 y41_1 0 0 H.size _ h) (cwV 3 hts zg_zd_X6_goOver_zd_X6_comes_35 rfl rfl rfl (by decide +kernel) ⟨Nat.le_of_ble_eq_true rfl, Nat.le_of_ble_eq_true rfl⟩) ⟨zCW, va_recv hK hP (ci := 6) (q0 := p_3) rfl hp_3, fun U hU hW => ⟨rfl, by rw [hU], by rw [hU]; exact hP, hE.warm hW, hD.weaken (fun _ _ _ _ => trivial)⟩⟩ rfl rfl hl.1 rfl (lv_room (Nat.le_of_ble_eq_true rfl)) dX6_goOver_55 (cA_le hN)) hS (fun q _ h => hFc q h) hFc (fun r4 S4 t H locs ht hvm h hB hz1 hk1 hS => ?_)
        obtain ⟨hP, hD1, hN1⟩ := hB
        rw [ht] at hP
        have hD := hD1.weaken (fun k q _ hq => hFc q.1 hq)
        have hN := cA_keep hN hN1
        refine lv_pop hx hb dX6_goOver_58 rfl ?_
        refine lv_iconst (v := 0) hx hb dX6_goOver_59 (by decide) ?_
        refine lv_istore_n (lv' := [(2, .int 0), (0, .ref (q_41 10 0)), (1, .ref (q_41 24 y41_1))]) hx hb dX6_goOver_60 rfl hl (by decide) rfl (fun ls hl => ?_)
        have EX_61_115 : ∀ (q_115 : Nat → Nat → Nat) (S_115 : CST) (y115_1 : Nat) (H : Heap) (locs : List Loc) (cells slots : Nat) (ls : Array Slot), (wp_X6_greatestDepth S_115 y115_1 (fun r6 => cin S_115 24 y115_1 ∧ (∀ S8 : CST, S8 = cs S_115 248 y115_1 (fun _ => r6) → (cin S8 24 y115_1 ∧ (wp_X6_plainCode S8 y115_1 (fun S12 r12 => cin S12 24 y115_1 ∧ r12 < 2147483648 ∧ (∀ S14 : CST, S14 = cs S12 249 y115_1 (fun _ => (nI r12)) → (cin S14 24 y115_1 ∧ (Post S14 (cv S14 248 y115_1 0)))))))))) → va_P D vwCl (cW cI cZ cP cF q_115 S_115) H → va_D A (cW cI cZ cP cF q_115 S_115) → va_S A s.heap H locs → cA q S q_115 S_115 cells slots → lv_has ls 4 [(0, .ref (q_115 10 0)), (1, .ref (q_115 24 y115_1))] → W p l e (headSpec zw_zd_X6_goOver ({ frames := 4, cells := rmc S, slots := rms S, locals := 128 })).room s m ([.ref (q 10 0), .ref (q 24 i1)] : List Value).toArray below meth c H locs cells slots (MQV below (xQi (fun S' r => Post S' r) (fun (q' : Nat → Nat → Nat) (S' : CST) k n t => va_P D vwCl (cW cI cZ cP cF q' S') t.heap ∧ va_D A (cW cI cZ cP cF q' S') ∧ cA q S q' S' k n) A) ([.ref (q 10 0), .ref (q 24 i1)] : List Value).toArray s A) (F0 m 115 ls []) := by
          intro q_115 S_115 y115_1 H locs cells slots ls h hP hD hS hN hl
          refine lv_aload_n hx hb dX6_goOver_115 rfl (lv_at hl 1 rfl) ?_
          refine lv_aload_n hx hb dX6_goOver_116 rfl (lv_at hl 0 rfl) ?_
          refine lv_aload_n hx hb dX6_goOver_117 rfl (lv_at hl 1 rfl) ?_
          obtain ⟨p_5, hp_5⟩ := cget_10 cI cZ cP cF q_115 S_115
          have hi_5 : cin S_115 10 0 := Or.inl ⟨by decide, rfl⟩
          refine vp_callSi (va_Run.run (va_runV (As := [.ref (q_115 24 y115_1)]) (rest := [.ref (q_115 24 y115_1)]) ⟨hx, hb, hml, hown, hts⟩ (zd_X6_greatestDepth l D cI cZ cP cF q_115 S_115 y115_1  _ h) (cwV 1 hts zg_zd_X6_goOver_zd_X6_greatestDepth_47 rfl rfl rfl (by decide +kernel) ⟨Nat.le_of_ble_eq_true rfl, Nat.le_of_ble_eq_true rfl⟩) ⟨zCR, va_recv hK hP (ci := 6) (q0 := p_5) rfl hp_5, fun U hU hW => ⟨rfl, by rw [hU]; exact hP, hE.warm hW⟩⟩ rfl rfl hl.1 rfl (lv_room (Nat.le_of_ble_eq_true rfl)) dX6_goOver_118 (cA_le hN))) (fun r6 h => ?_)
          have hi_7 := h.1
          have h := h.2
          obtain ⟨p_7, hp_7⟩ := cget_24 cI cZ cP cF q_115 S_115 hi_7
          have hD0_7 := hD
          refine va_put (D := D) (ci := 8) (v := .int r6) (ty := .int) (C := RX8) (T := TX8) (N := 10) hx hb hts (fun _ h => List.mem_cons_of_mem _ (List.mem_append_left _ (List.mem_append_left _ (List.mem_append_left _ (List.mem_append_right _ h))))) tyX8 tyX8_ok nmX8 hown hK hP hD hS p_7 hp_7 rfl 8 (by decide) (hts (.fieldLink RX6 51 "TemplateForge$Program" "deepest" "I") (List.mem_of_getElem? (i := 36) rfl)) (fun _ h9 => h9) rfl (by decide +kernel) rfl rfl (Nat.le_of_ble_eq_true rfl) dX6_goOver_121 (fun H locs hP hD hS => ?_)
          obtain ⟨S8, eS8⟩ : ∃ z, z = cs S_115 248 y115_1 (fun _ => r6) := ⟨_, rfl⟩
          have hP : va_P D vwCl (cW cI cZ cP cF q_115 S8) H := by rw [eS8, ← cW_put (k := 248) (κ := 24) (i := y115_1) (g := (fun _ => r6)) rfl hD0_7 hp_7 hi_7, cput_248]; exact hP
          have hD : va_D A (cW cI cZ cP cF q_115 S8) := by rw [eS8, ← cW_put (k := 248) (κ := 24) (i := y115_1) (g := (fun _ => r6)) rfl hD0_7 hp_7 hi_7, cput_248]; exact hD
          have hN := cA_keep hN (S2 := S8) ((congrArg Prod.snd eS8).trans rfl)
          have h := h S8 eS8
          refine lv_aload_n hx hb dX6_goOver_124 rfl (lv_at hl 1 rfl) ?_
          refine lv_aload_n hx hb dX6_goOver_125 rfl (lv_at hl 0 rfl) ?_
          refine lv_aload_n hx hb dX6_goOver_126 rfl (lv_at hl 1 rfl) ?_
          obtain ⟨p_9, hp_9⟩ := cget_10 cI cZ cP cF q_115 S8
          have hi_9 : cin S8 10 0 := Or.inl ⟨by decide, rfl⟩
          have hc_11 := h.1
          have h := h.2
          have hFc := zm_free hD hS hA
          refine xc_c (z_runV (As := [.ref (q_115 24 y115_1)]) (rest := [.ref (q_115 24 y115_1)]) ⟨hx, hb, hml, hown, hts⟩ (zd_X6_plainCode l D cI cZ cP cF q_115 S8 y115_1 H.size _ h (cA_cap hN)) (cwV 1 hts zg_zd_X6_goOver_zd_X6_plainCode_54 rfl rfl rfl (by decide +kernel) ⟨Nat.le_of_ble_eq_true rfl, Nat.le_of_ble_eq_true rfl⟩) ⟨zCW, va_recv hK hP (ci := 6) (q0 := p_9) rfl hp_9, fun U hU hW => ⟨rfl, by rw [hU], by rw [hU]; exact hP, hE.warm hW, hD.weaken (fun _ _ _ _ => trivial)⟩⟩ rfl rfl hl.1 rfl (lv_room (Nat.le_of_ble_eq_true rfl)) dX6_goOver_127 (cA_room hN)) hS (fun q _ h => hFc q h) hFc (fun r12 q12 S12 k n t H locs ht hvm h hB hz1 hk1 hS => ?_)
          obtain ⟨hP, hD1, hN1⟩ := hB
          rw [ht] at hP
          have hD := hD1.weaken (fun k q _ hq => hFc q.1 hq)
          have e_10 : q12 10 0 = q_115 10 0 := hN1.1 10 0 (Or.inl ⟨by decide, rfl⟩)
          have e_11 : q12 24 y115_1 = q_115 24 y115_1 := hN1.1 24 y115_1 hc_11
          have hN := cA_step hN hN1.1 hN1.2
          have hl : lv_has ls 4 [(0, .ref (q12 10 0)), (1, .ref (q12 24 y115_1))] := by simp only [e_10, e_11]; exact hl
          refine W.eq (g2 := F0 m 130 ls [.ref (q12 32 r12), .ref (q12 24 y115_1)]) (by simp only [e_10, e_11] <;> rfl) ?_
          have hi_13 := h.1
          have h := h.2
          obtain ⟨p_13, hp_13⟩ := cget_24 cI cZ cP cF q12 S12 hi_13
          have hb_15 := h.1
          have h := h.2
          have hD0_13 := hD
          refine va_put (D := D) (ci := 8) (v := .ref (q12 32 r12)) (ty := .object "TemplateForge$Code") (C := RX8) (T := TX8) (N := 10) hx hb hts (fun _ h => List.mem_cons_of_mem _ (List.mem_append_left _ (List.mem_append_left _ (List.mem_append_left _ (List.mem_append_right _ h))))) tyX8 tyX8_ok nmX8 hown hK hP hD hS p_13 hp_13 rfl 9 (by decide) (hts (.fieldLink RX6 58 "TemplateForge$Program" "plain" "LTemplateForge$Code;") (List.mem_of_getElem? (i := 116) rfl)) (fun _ h9 => h9) rfl (by decide +kernel) rfl rfl (Nat.le_of_ble_eq_true rfl) dX6_goOver_130 (fun H locs hP hD hS => ?_)
          obtain ⟨S14, eS14⟩ : ∃ z, z = cs S12 249 y115_1 (fun _ => (nI r12)) := ⟨_, rfl⟩
          have hP : va_P D vwCl (cW cI cZ cP cF q12 S14) H := by rw [eS14, ← cW_put (k := 249) (κ := 24) (i := y115_1) (g := (fun _ => (nI r12))) rfl hD0_13 hp_13 hi_13, cput_249, show cn q12 32 (nI r12) = .ref (q12 32 r12) from cn_nI hb_15]; exact hP
          have hD : va_D A (cW cI cZ cP cF q12 S14) := by rw [eS14, ← cW_put (k := 249) (κ := 24) (i := y115_1) (g := (fun _ => (nI r12))) rfl hD0_13 hp_13 hi_13, cput_249, show cn q12 32 (nI r12) = .ref (q12 32 r12) from cn_nI hb_15]; exact hD
          have hN := cA_keep hN (S2 := S14) ((congrArg Prod.snd eS14).trans rfl)
          have h := h S14 eS14
          refine lv_aload_n hx hb dX6_goOver_133 rfl (lv_at hl 1 rfl) ?_
          have hi_16 := h.1
          have h := h.2
          obtain ⟨p_16, hp_16⟩ := cget_24 cI cZ cP cF q12 S14 hi_16
          refine va_get (D := D) (ci := 8) (v := .int (cv S14 248 y115_1 0)) (C := RX8) (T := TX8) (N := 10) hx hb hts (fun _ h => List.mem_cons_of_mem _ (List.mem_append_left _ (List.mem_append_left _ (List.mem_append_left _ (List.mem_append_right _ h))))) hown hK hP p_16 hp_16 rfl 8 (by decide) (hts (.fieldLink RX6 51 "TemplateForge$Program" "deepest" "I") (List.mem_of_getElem? (i := 36) rfl)) (fun _ h9 => h9) rfl dX6_goOver_134 ?_
          exact zV_i (v := cv S14 248 y115_1 0) hx hb hr (fun t ht hW => ⟨⟨_, q12, S14, rfl, h, by rw [ht]; exact hP, hD, hN⟩, hS.F ht⟩) hS.2.2 dX6_goOver_137 hlocks
        have EX_61_77 : ∀ (q_77 : Nat → Nat → Nat) (S_77 : CST) (y77_1 : Nat) (H : Heap) (locs : List Loc) (cells slots : Nat) (ls : Array Slot), (wp_X6_greatestDepth S_77 y77_1 (fun r18 => cin S_77 24 y77_1 ∧ (∀ S20 : CST, S20 = cs S_77 248 y77_1 (fun _ => r18) → (cin S20 24 y77_1 ∧ (wp_X6_plainCode S20 y77_1 (fun S24 r24 => cin S24 24 y77_1 ∧ r24 < 2147483648 ∧ (∀ S26 : CST, S26 = cs S24 249 y77_1 (fun _ => (nI r24)) → (cin S26 24 y77_1 ∧ (Post S26 (cv S26 248 y77_1 0)))))))))) → va_P D vwCl (cW cI cZ cP cF q_77 S_77) H → va_D A (cW cI cZ cP cF q_77 S_77) → va_S A s.heap H locs → cA q S q_77 S_77 cells slots → lv_has ls 4 [(0, .ref (q_77 10 0)), (1, .ref (q_77 24 y77_1))] → W p l e (headSpec zw_zd_X6_goOver ({ frames := 4, cells := rmc S, slots := rms S, locals := 128 })).room s m ([.ref (q 10 0), .ref (q 24 i1)] : List Value).toArray below meth c H locs cells slots (MQV below (xQi (fun S' r => Post S' r) (fun (q' : Nat → Nat → Nat) (S' : CST) k n t => va_P D vwCl (cW cI cZ cP cF q' S') t.heap ∧ va_D A (cW cI cZ cP cF q' S') ∧ cA q S q' S' k n) A) ([.ref (q 10 0), .ref (q 24 i1)] : List Value).toArray s A) (F0 m 77 ls []) := by
          intro q_77 S_77 y77_1 H locs cells slots ls h hP hD hS hN hl
          refine lv_goto (tgt := 115) hx hb dX6_goOver_77 (by decide) ?_
          refine lv_aload_n hx hb dX6_goOver_115 rfl (lv_at hl 1 rfl) ?_
          refine lv_aload_n hx hb dX6_goOver_116 rfl (lv_at hl 0 rfl) ?_
          refine lv_aload_n hx hb dX6_goOver_117 rfl (lv_at hl 1 rfl) ?_
          obtain ⟨p_17, hp_17⟩ := cget_10 cI cZ cP cF q_77 S_77
          have hi_17 : cin S_77 10 0 := Or.inl ⟨by decide, rfl⟩
          refine vp_callSi (va_Run.run (va_runV (As := [.ref (q_77 24 y77_1)]) (rest := [.ref (q_77 24 y77_1)]) ⟨hx, hb, hml, hown, hts⟩ (zd_X6_greatestDepth l D cI cZ cP cF q_77 S_77 y77_1  _ h) (cwV 1 hts zg_zd_X6_goOver_zd_X6_greatestDepth_47 rfl rfl rfl (by decide +kernel) ⟨Nat.le_of_ble_eq_true rfl, Nat.le_of_ble_eq_true rfl⟩) ⟨zCR, va_recv hK hP (ci := 6) (q0 := p_17) rfl hp_17, fun U hU hW => ⟨rfl, by rw [hU]; exact hP, hE.warm hW⟩⟩ rfl rfl hl.1 rfl (lv_room (Nat.le_of_ble_eq_true rfl)) dX6_goOver_118 (cA_le hN))) (fun r18 h => ?_)
          have hi_19 := h.1
          have h := h.2
          obtain ⟨p_19, hp_19⟩ := cget_24 cI cZ cP cF q_77 S_77 hi_19
          have hD0_19 := hD
          refine va_put (D := D) (ci := 8) (v := .int r18) (ty := .int) (C := RX8) (T := TX8) (N := 10) hx hb hts (fun _ h => List.mem_cons_of_mem _ (List.mem_append_left _ (List.mem_append_left _ (List.mem_append_left _ (List.mem_append_right _ h))))) tyX8 tyX8_ok nmX8 hown hK hP hD hS p_19 hp_19 rfl 8 (by decide) (hts (.fieldLink RX6 51 "TemplateForge$Program" "deepest" "I") (List.mem_of_getElem? (i := 36) rfl)) (fun _ h9 => h9) rfl (by decide +kernel) rfl rfl (Nat.le_of_ble_eq_true rfl) dX6_goOver_121 (fun H locs hP hD hS => ?_)
          obtain ⟨S20, eS20⟩ : ∃ z, z = cs S_77 248 y77_1 (fun _ => r18) := ⟨_, rfl⟩
          have hP : va_P D vwCl (cW cI cZ cP cF q_77 S20) H := by rw [eS20, ← cW_put (k := 248) (κ := 24) (i := y77_1) (g := (fun _ => r18)) rfl hD0_19 hp_19 hi_19, cput_248]; exact hP
          have hD : va_D A (cW cI cZ cP cF q_77 S20) := by rw [eS20, ← cW_put (k := 248) (κ := 24) (i := y77_1) (g := (fun _ => r18)) rfl hD0_19 hp_19 hi_19, cput_248]; exact hD
          have hN := cA_keep hN (S2 := S20) ((congrArg Prod.snd eS20).trans rfl)
          have h := h S20 eS20
          refine lv_aload_n hx hb dX6_goOver_124 rfl (lv_at hl 1 rfl) ?_
          refine lv_aload_n hx hb dX6_goOver_125 rfl (lv_at hl 0 rfl) ?_
          refine lv_aload_n hx hb dX6_goOver_126 rfl (lv_at hl 1 rfl) ?_
          obtain ⟨p_21, hp_21⟩ := cget_10 cI cZ cP cF q_77 S20
          have hi_21 : cin S20 10 0 := Or.inl ⟨by decide, rfl⟩
          have hc_23 := h.1
          have h := h.2
          have hFc := zm_free hD hS hA
          refine xc_c (z_runV (As := [.ref (q_77 24 y77_1)]) (rest := [.ref (q_77 24 y77_1)]) ⟨hx, hb, hml, hown, hts⟩ (zd_X6_plainCode l D cI cZ cP cF q_77 S20 y77_1 H.size _ h (cA_cap hN)) (cwV 1 hts zg_zd_X6_goOver_zd_X6_plainCode_54 rfl rfl rfl (by decide +kernel) ⟨Nat.le_of_ble_eq_true rfl, Nat.le_of_ble_eq_true rfl⟩) ⟨zCW, va_recv hK hP (ci := 6) (q0 := p_21) rfl hp_21, fun U hU hW => ⟨rfl, by rw [hU], by rw [hU]; exact hP, hE.warm hW, hD.weaken (fun _ _ _ _ => trivial)⟩⟩ rfl rfl hl.1 rfl (lv_room (Nat.le_of_ble_eq_true rfl)) dX6_goOver_127 (cA_room hN)) hS (fun q _ h => hFc q h) hFc (fun r24 q24 S24 k n t H locs ht hvm h hB hz1 hk1 hS => ?_)
          obtain ⟨hP, hD1, hN1⟩ := hB
          rw [ht] at hP
          have hD := hD1.weaken (fun k q _ hq => hFc q.1 hq)
          have e_22 : q24 10 0 = q_77 10 0 := hN1.1 10 0 (Or.inl ⟨by decide, rfl⟩)
          have e_23 : q24 24 y77_1 = q_77 24 y77_1 := hN1.1 24 y77_1 hc_23
          have hN := cA_step hN hN1.1 hN1.2
          have hl : lv_has ls 4 [(0, .ref (q24 10 0)), (1, .ref (q24 24 y77_1))] := by simp only [e_22, e_23]; exact hl
          refine W.eq (g2 := F0 m 130 ls [.ref (q24 32 r24), .ref (q24 24 y77_1)]) (by simp only [e_22, e_23] <;> rfl) ?_
          have hi_25 := h.1
          have h := h.2
          obtain ⟨p_25, hp_25⟩ := cget_24 cI cZ cP cF q24 S24 hi_25
          have hb_27 := h.1
          have h := h.2
          have hD0_25 := hD
          refine va_put (D := D) (ci := 8) (v := .ref (q24 32 r24)) (ty := .object "TemplateForge$Code") (C := RX8) (T := TX8) (N := 10) hx hb hts (fun _ h => List.mem_cons_of_mem _ (List.mem_append_left _ (List.mem_append_left _ (List.mem_append_left _ (List.mem_append_right _ h))))) tyX8 tyX8_ok nmX8 hown hK hP hD hS p_25 hp_25 rfl 9 (by decide) (hts (.fieldLink RX6 58 "TemplateForge$Program" "plain" "LTemplateForge$Code;") (List.mem_of_getElem? (i := 116) rfl)) (fun _ h9 => h9) rfl (by decide +kernel) rfl rfl (Nat.le_of_ble_eq_true rfl) dX6_goOver_130 (fun H locs hP hD hS => ?_)
          obtain ⟨S26, eS26⟩ : ∃ z, z = cs S24 249 y77_1 (fun _ => (nI r24)) := ⟨_, rfl⟩
          have hP : va_P D vwCl (cW cI cZ cP cF q24 S26) H := by rw [eS26, ← cW_put (k := 249) (κ := 24) (i := y77_1) (g := (fun _ => (nI r24))) rfl hD0_25 hp_25 hi_25, cput_249, show cn q24 32 (nI r24) = .ref (q24 32 r24) from cn_nI hb_27]; exact hP
          have hD : va_D A (cW cI cZ cP cF q24 S26) := by rw [eS26, ← cW_put (k := 249) (κ := 24) (i := y77_1) (g := (fun _ => (nI r24))) rfl hD0_25 hp_25 hi_25, cput_249, show cn q24 32 (nI r24) = .ref (q24 32 r24) from cn_nI hb_27]; exact hD
          have hN := cA_keep hN (S2 := S26) ((congrArg Prod.snd eS26).trans rfl)
          have h := h S26 eS26
          refine lv_aload_n hx hb dX6_goOver_133 rfl (lv_at hl 1 rfl) ?_
          have hi_28 := h.1
          have h := h.2
          obtain ⟨p_28, hp_28⟩ := cget_24 cI cZ cP cF q24 S26 hi_28
          refine va_get (D := D) (ci := 8) (v := .int (cv S26 248 y77_1 0)) (C := RX8) (T := TX8) (N := 10) hx hb hts (fun _ h => List.mem_cons_of_mem _ (List.mem_append_left _ (List.mem_append_left _ (List.mem_append_left _ (List.mem_append_right _ h))))) hown hK hP p_28 hp_28 rfl 8 (by decide) (hts (.fieldLink RX6 51 "TemplateForge$Program" "deepest" "I") (List.mem_of_getElem? (i := 36) rfl)) (fun _ h9 => h9) rfl dX6_goOver_134 ?_
          exact zV_i (v := cv S26 248 y77_1 0) hx hb hr (fun t ht hW => ⟨⟨_, q24, S26, rfl, h, by rw [ht]; exact hP, hD, hN⟩, hS.F ht⟩) hS.2.2 dX6_goOver_137 hlocks
        have EX_61_104 : ∀ (q_104 : Nat → Nat → Nat) (S_104 : CST) (x104_3 : Int32) (H : Heap) (locs : List Loc) (cells slots : Nat) (ls : Array Slot), (Post S_104 ((-100) - x104_3)) → va_P D vwCl (cW cI cZ cP cF q_104 S_104) H → va_D A (cW cI cZ cP cF q_104 S_104) → va_S A s.heap H locs → cA q S q_104 S_104 cells slots → lv_has ls 4 [(3, .int x104_3)] → W p l e (headSpec zw_zd_X6_goOver ({ frames := 4, cells := rmc S, slots := rms S, locals := 128 })).room s m ([.ref (q 10 0), .ref (q 24 i1)] : List Value).toArray below meth c H locs cells slots (MQV below (xQi (fun S' r => Post S' r) (fun (q' : Nat → Nat → Nat) (S' : CST) k n t => va_P D vwCl (cW cI cZ cP cF q' S') t.heap ∧ va_D A (cW cI cZ cP cF q' S') ∧ cA q S q' S' k n) A) ([.ref (q 10 0), .ref (q 24 i1)] : List Value).toArray s A) (F0 m 104 ls []) := by
          intro q_104 S_104 x104_3 H locs cells slots ls h hP hD hS hN hl
          refine lv_bipush (v := (-100)) hx hb dX6_goOver_104 (by decide) ?_
          refine lv_iload_n hx hb dX6_goOver_106 rfl (lv_at hl 0 rfl) ?_
          refine lv_isub hx hb dX6_goOver_107 ?_
          exact zV_i (v := (-100) - x104_3) hx hb hr (fun t ht hW => ⟨⟨_, q_104, S_104, rfl, h, by rw [ht]; exact hP, hD, hN⟩, hS.F ht⟩) hS.2.2 dX6_goOver_108 hlocks
        have LP_61 : ∀ (n_61 : Nat), ∀ (q_61 : Nat → Nat → Nat) (S_61 : CST) (y61_1 : Nat) (x61_2 : Int32) (H : Heap) (locs : List Loc) (cells slots : Nat) (ls : Array Slot), wl_X6_goOver_61 (fun S_115 y115_1 => wp_X6_greatestDepth S_115 y115_1 (fun r6 => cin S_115 24 y115_1 ∧ (∀ S8 : CST, S8 = cs S_115 248 y115_1 (fun _ => r6) → (cin S8 24 y115_1 ∧ (wp_X6_plainCode S8 y115_1 (fun S12 r12 => cin S12 24 y115_1 ∧ r12 < 2147483648 ∧ (∀ S14 : CST, S14 = cs S12 249 y115_1 (fun _ => (nI r12)) → (cin S14 24 y115_1 ∧ (Post S14 (cv S14 248 y115_1 0)))))))))) (fun S_77 y77_1 => wp_X6_greatestDepth S_77 y77_1 (fun r18 => cin S_77 24 y77_1 ∧ (∀ S20 : CST, S20 = cs S_77 248 y77_1 (fun _ => r18) → (cin S20 24 y77_1 ∧ (wp_X6_plainCode S20 y77_1 (fun S24 r24 => cin S24 24 y77_1 ∧ r24 < 2147483648 ∧ (∀ S26 : CST, S26 = cs S24 249 y77_1 (fun _ => (nI r24)) → (cin S26 24 y77_1 ∧ (Post S26 (cv S26 248 y77_1 0)))))))))) (fun S_104 x104_3 => Post S_104 ((-100) - x104_3)) Post n_61 S_61 y61_1 x61_2 → va_P D vwCl (cW cI cZ cP cF q_61 S_61) H → va_D A (cW cI cZ cP cF q_61 S_61) → va_S A s.heap H locs → cA q S q_61 S_61 cells slots → lv_has ls 4 [(0, .ref (q_61 10 0)), (1, .ref (q_61 24 y61_1)), (2, .int x61_2)] → W p l e (headSpec zw_zd_X6_goOver ({ frames := 4, cells := rmc S, slots := rms S, locals := 128 })).room s m ([.ref (q 10 0), .ref (q 24 i1)] : List Value).toArray below meth c H locs cells slots (MQV below (xQi (fun S' r => Post S' r) (fun (q' : Nat → Nat → Nat) (S' : CST) k n t => va_P D vwCl (cW cI cZ cP cF q' S') t.heap ∧ va_D A (cW cI cZ cP cF q' S') ∧ cA q S q' S' k n) A) ([.ref (q 10 0), .ref (q 24 i1)] : List Value).toArray s A) (F0 m 61 ls []) := by
          intro n_61
          induction n_61 with
          | zero =>
            intro q_61 S_61 y61_1 x61_2 H locs cells slots ls h hP hD hS hN hl
            exact False.elim h
          | succ n_61 ih_61 =>
            intro q_61 S_61 y61_1 x61_2 H locs cells slots ls h hP hD hS hN hl
            unfold wl_X6_goOver_61 at h
            refine lv_iload_n hx hb dX6_goOver_61 rfl (lv_at hl 2 rfl) ?_
            refine lv_bipush (v := 60) hx hb dX6_goOver_62 (by decide) ?_
            refine lv_icmp_ge (tgt := 115) hx hb dX6_goOver_64 (by decide) (fun c_29 => ?_) (fun c_29 => ?_)
            · have h := h.1 c_29
              exact EX_61_115  q_61 S_61 y61_1 H locs _ _ _ h hP hD hS hN (lv_sub hl [0, 1] rfl)
            · have h := h.2 c_29
              refine lv_aload_n hx hb dX6_goOver_67 rfl (lv_at hl 0 rfl) ?_
              obtain ⟨p_30, hp_30⟩ := cget_10 cI cZ cP cF q_61 S_61
              have hi_30 : cin S_61 10 0 := Or.inl ⟨by decide, rfl⟩
              refine vp_callSi (va_Run.run (va_runV (As := []) (rest := []) ⟨hx, hb, hml, hown, hts⟩ (zd_X6_leastWaiting l D cI cZ cP cF q_61 S_61   _ h) (cwV 0 hts zg_zd_X6_goOver_zd_X6_leastWaiting_39 rfl rfl rfl (by decide +kernel) ⟨Nat.le_of_ble_eq_true rfl, Nat.le_of_ble_eq_true rfl⟩) ⟨zCR, va_recv hK hP (ci := 6) (q0 := p_30) rfl hp_30, fun U hU hW => ⟨rfl, by rw [hU]; exact hP, hE.warm hW⟩⟩ rfl rfl hl.1 rfl (lv_room (Nat.le_of_ble_eq_true rfl)) dX6_goOver_68 (cA_le hN))) (fun r31 h => ?_)
              refine lv_istore_n (lv' := [(3, .int r31), (0, .ref (q_61 10 0)), (1, .ref (q_61 24 y61_1)), (2, .int x61_2)]) hx hb dX6_goOver_71 rfl hl (by decide) rfl (fun ls hl => ?_)
              refine lv_iload_n hx hb dX6_goOver_72 rfl (lv_at hl 0 rfl) ?_
              refine lv_iconst (v := (-1)) hx hb dX6_goOver_73 (by decide) ?_
              refine lv_icmp_ne (tgt := 80) hx hb dX6_goOver_74 (by decide) (fun c_32 => ?_) (fun c_32 => ?_)
              · have h := h.1 c_32
                refine lv_aload_n hx hb dX6_goOver_80 rfl (lv_at hl 1 rfl) ?_
                obtain ⟨p_33, hp_33⟩ := cget_10 cI cZ cP cF q_61 S_61
                have hi_33 : cin S_61 10 0 := Or.inl ⟨by decide, rfl⟩
                refine va_get (D := D) (ci := 6) (v := .ref (q_61 11 0)) (C := RX6) (T := TX6) (N := 4) hx hb hts (fun _ h => List.mem_cons_of_mem _ (List.mem_append_left _ (List.mem_append_left _ (List.mem_append_left _ (List.mem_append_left _ (List.mem_append_right _ h)))))) hown hK hP p_33 hp_33 rfl 2 (by decide) (hts (.fieldLink RX6 9 "TemplateForge$Looker" "waiting" "[Z") (List.mem_of_getElem? (i := 22) rfl)) (fun _ h9 => h9) rfl dX6_goOver_81 ?_
                refine lv_iload_n hx hb dX6_goOver_84 rfl (lv_at hl 0 rfl) ?_
                refine lv_iconst (v := 0) hx hb dX6_goOver_85 (by decide) ?_
                obtain ⟨p_34, hp_34⟩ := cget_11 cI cZ cP cF q_61 S_61
                have hi_34 : cin S_61 11 0 := Or.inl ⟨by decide, rfl⟩
                have hin_34 := h.1
                have h := h.2
                have hD0_34 := hD
                refine va_zast hx hb hK hP hD hS p_34 1 hp_34 rfl hin_34 dX6_goOver_86 (fun H locs hP hD hS => ?_)
                obtain ⟨S35, eS35⟩ : ∃ z, z = cs S_61 110 0 (upd (cv S_61 110 0) (r31 : Int32).toNatClampNeg (vp_nar .boolean 0)) := ⟨_, rfl⟩
                have hP : va_P D vwCl (cW cI cZ cP cF q_61 S35) H := by rw [eS35, ← cW_put (k := 110) (κ := 11) (i := 0) (g := (upd (cv S_61 110 0) (r31 : Int32).toNatClampNeg (vp_nar .boolean 0))) rfl hD0_34 hp_34 hi_34, cput_110]; exact hP
                have hD : va_D A (cW cI cZ cP cF q_61 S35) := by rw [eS35, ← cW_put (k := 110) (κ := 11) (i := 0) (g := (upd (cv S_61 110 0) (r31 : Int32).toNatClampNeg (vp_nar .boolean 0))) rfl hD0_34 hp_34 hi_34, cput_110]; exact hD
                have hN := cA_keep hN (S2 := S35) ((congrArg Prod.snd eS35).trans rfl)
                have h := h S35 eS35
                refine lv_aload_n hx hb dX6_goOver_87 rfl (lv_at hl 1 rfl) ?_
                refine lv_aload_n hx hb dX6_goOver_88 rfl (lv_at hl 1 rfl) ?_
                refine lv_aload_n hx hb dX6_goOver_89 rfl (lv_at hl 2 rfl) ?_
                refine lv_iload_n hx hb dX6_goOver_90 rfl (lv_at hl 0 rfl) ?_
                obtain ⟨p_36, hp_36⟩ := cget_10 cI cZ cP cF q_61 S35
                have hi_36 : cin S35 10 0 := Or.inl ⟨by decide, rfl⟩
                have hFc := zm_free hD hS hA
                refine va_calli (va_runV (As := [.ref (q_61 24 y61_1), .int r31]) (rest := [.ref (q_61 10 0)]) ⟨hx, hb, hml, hown, hts⟩ (zd_X6_faultAt l D cI cZ cP cF q_61 S35 y61_1 r31 H.size _ h) (cwV 2 hts zg_zd_X6_goOver_zd_X6_faultAt_43 rfl rfl rfl (by decide +kernel) ⟨Nat.le_of_ble_eq_true rfl, Nat.le_of_ble_eq_true rfl⟩) ⟨zCWs, va_recv hK hP (ci := 6) (q0 := p_36) rfl hp_36, fun U hU hW => ⟨rfl, by rw [hU], by rw [hU]; exact hP, hE.warm hW, hD.weaken (fun _ _ _ _ => trivial), zT_move hT hS (zNm_in hD) hW.alike hU⟩⟩ rfl rfl hl.1 rfl (lv_room (Nat.le_of_ble_eq_true rfl)) dX6_goOver_91 (cA_le hN)) hS (fun q _ h => hFc q h) hFc (fun r37 S37 t H locs ht hvm h hB hz1 hk1 hS => ?_)
                obtain ⟨hP, hD1, hN1⟩ := hB
                rw [ht] at hP
                have hD := hD1.weaken (fun k q _ hq => hFc q.1 hq)
                have hN := cA_keep hN hN1
                obtain ⟨p_38, hp_38⟩ := cget_10 cI cZ cP cF q_61 S37
                have hi_38 : cin S37 10 0 := Or.inl ⟨by decide, rfl⟩
                have hD0_38 := hD
                refine va_put (D := D) (ci := 6) (v := .int r37) (ty := .int) (C := RX6) (T := TX6) (N := 4) hx hb hts (fun _ h => List.mem_cons_of_mem _ (List.mem_append_left _ (List.mem_append_left _ (List.mem_append_left _ (List.mem_append_left _ (List.mem_append_right _ h)))))) tyX6 tyX6_ok nmX6 hown hK hP hD hS p_38 hp_38 rfl 3 (by decide) (hts (.fieldLink RX6 32 "TemplateForge$Looker" "found" "I") (List.mem_of_getElem? (i := 1) rfl)) (fun _ h9 => h9) rfl (by decide +kernel) rfl rfl (Nat.le_of_ble_eq_true rfl) dX6_goOver_94 (fun H locs hP hD hS => ?_)
                obtain ⟨S39, eS39⟩ : ∃ z, z = cs S37 103 0 (fun _ => r37) := ⟨_, rfl⟩
                have hP : va_P D vwCl (cW cI cZ cP cF q_61 S39) H := by rw [eS39, ← cW_put (k := 103) (κ := 10) (i := 0) (g := (fun _ => r37)) rfl hD0_38 hp_38 hi_38, cput_103]; exact hP
                have hD : va_D A (cW cI cZ cP cF q_61 S39) := by rw [eS39, ← cW_put (k := 103) (κ := 10) (i := 0) (g := (fun _ => r37)) rfl hD0_38 hp_38 hi_38, cput_103]; exact hD
                have hN := cA_keep hN (S2 := S39) ((congrArg Prod.snd eS39).trans rfl)
                have h := h S39 eS39
                refine lv_aload_n hx hb dX6_goOver_97 rfl (lv_at hl 1 rfl) ?_
                obtain ⟨p_40, hp_40⟩ := cget_10 cI cZ cP cF q_61 S39
                have hi_40 : cin S39 10 0 := Or.inl ⟨by decide, rfl⟩
                refine va_get (D := D) (ci := 6) (v := .int (cv S39 103 0 0)) (C := RX6) (T := TX6) (N := 4) hx hb hts (fun _ h => List.mem_cons_of_mem _ (List.mem_append_left _ (List.mem_append_left _ (List.mem_append_left _ (List.mem_append_left _ (List.mem_append_right _ h)))))) hown hK hP p_40 hp_40 rfl 3 (by decide) (hts (.fieldLink RX6 32 "TemplateForge$Looker" "found" "I") (List.mem_of_getElem? (i := 1) rfl)) (fun _ h9 => h9) rfl dX6_goOver_98 ?_
                refine lv_if_eq (tgt := 109) hx hb dX6_goOver_101 (by decide) (fun c_41 => ?_) (fun c_41 => ?_)
                · have h := h.1 c_41
                  refine lv_iinc (v := x61_2 + 1) (lv' := [(2, .int (x61_2 + 1)), (3, .int r31), (0, .ref (q_61 10 0)), (1, .ref (q_61 24 y61_1))]) hx hb dX6_goOver_109 hl (k := 3) rfl rfl (by decide) rfl (fun ls hl => ?_)
                  refine lv_goto (tgt := 61) hx hb dX6_goOver_112 (by decide) ?_
                  exact ih_61  q_61 S39 y61_1 (x61_2 + 1) H locs _ _ _ h hP hD hS hN (lv_sub hl [2, 3, 0] rfl)
                · have h := h.2 c_41
                  exact EX_61_104  q_61 S39 r31 H locs _ _ _ h hP hD hS hN (lv_sub hl [0] rfl)
              · have h := h.2 c_32
                exact EX_61_77  q_61 S_61 y61_1 H locs _ _ _ h hP hD hS hN (lv_sub hl [1, 2] rfl)
        obtain ⟨n_61, h⟩ := h
        exact LP_61 n_61 q_41 S4 y41_1 0 H locs _ _ _ h hP hD hS hN (lv_sub hl [1, 2, 0] rfl)
      · have h := h.2 c_2
        refine lv_bipush (v := (-100)) hx hb dX6_goOver_48 (by decide) ?_
        exact zV_i (v := (-100)) hx hb hr (fun t ht hW => ⟨⟨_, q_41, S_41, rfl, h, by rw [ht]; exact hP, hD, hN⟩, hS.F ht⟩) hS.2.2 dX6_goOver_50 hlocks
    refine lv_aload_n hx hb dX6_goOver_0 rfl (lv_at hl 1 rfl) ?_
    have hi_42 := h.1
    have h := h.2
    obtain ⟨p_42, hp_42⟩ := cget_24 cI cZ cP cF q S hi_42
    have hFc := zm_free hD hS hA
    refine va_callv (va_runV (As := []) (rest := []) ⟨hx, hb, hml, hown, hts⟩ (zd_X8_forgetDepths l D cI cZ cP cF q S i1 H.size _ h) (cwV 0 hts zg_zd_X6_goOver_zd_X8_forgetDepths_23 rfl rfl rfl (by decide +kernel) ⟨Nat.le_of_ble_eq_true rfl, Nat.le_of_ble_eq_true rfl⟩) ⟨zCW, va_recv hK hP (ci := 8) (q0 := p_42) rfl hp_42, fun U hU hW => ⟨rfl, by rw [hU], by rw [hU]; exact hP, hE.warm hW, hD.weaken (fun _ _ _ _ => trivial)⟩⟩ rfl rfl hl.1 rfl (lv_room (Nat.le_of_ble_eq_true rfl)) dX6_goOver_1 (cA_le hN)) hS (fun q _ h => hFc q h) hFc (fun S43 t H locs ht hvm h hB hz1 hk1 hS => ?_)
    obtain ⟨hP, hD1, hN1⟩ := hB
    rw [ht] at hP
    have hD := hD1.weaken (fun k q _ hq => hFc q.1 hq)
    have hN := cA_keep hN hN1
    refine lv_iconst (v := 0) hx hb dX6_goOver_4 (by decide) ?_
    refine lv_istore_n (lv' := [(2, .int 0), (0, .ref (q 10 0)), (1, .ref (q 24 i1))]) hx hb dX6_goOver_5 rfl hl (by decide) rfl (fun ls hl => ?_)
    have EX_6_25 : ∀ (q_25 : Nat → Nat → Nat) (S_25 : CST) (y25_1 : Nat) (H : Heap) (locs : List Loc) (cells slots : Nat) (ls : Array Slot), (cin S_25 24 y25_1 ∧ (((¬ (((cv S_25 247 y25_1 0) : Int32) = 0)) → (∀ S47 : CST, S47 = cs S_25 103 0 (fun _ => 0) → (wj_X6_goOver_41 S47 y25_1 Post))) ∧ ((((cv S_25 247 y25_1 0) : Int32) = 0) → (∀ S49 : CST, S49 = cs S_25 103 0 (fun _ => 5) → (wj_X6_goOver_41 S49 y25_1 Post))))) → va_P D vwCl (cW cI cZ cP cF q_25 S_25) H → va_D A (cW cI cZ cP cF q_25 S_25) → va_S A s.heap H locs → cA q S q_25 S_25 cells slots → lv_has ls 4 [(0, .ref (q_25 10 0)), (1, .ref (q_25 24 y25_1))] → W p l e (headSpec zw_zd_X6_goOver ({ frames := 4, cells := rmc S, slots := rms S, locals := 128 })).room s m ([.ref (q 10 0), .ref (q 24 i1)] : List Value).toArray below meth c H locs cells slots (MQV below (xQi (fun S' r => Post S' r) (fun (q' : Nat → Nat → Nat) (S' : CST) k n t => va_P D vwCl (cW cI cZ cP cF q' S') t.heap ∧ va_D A (cW cI cZ cP cF q' S') ∧ cA q S q' S' k n) A) ([.ref (q 10 0), .ref (q 24 i1)] : List Value).toArray s A) (F0 m 25 ls []) := by
      intro q_25 S_25 y25_1 H locs cells slots ls h hP hD hS hN hl
      refine lv_aload_n hx hb dX6_goOver_25 rfl (lv_at hl 0 rfl) ?_
      refine lv_aload_n hx hb dX6_goOver_26 rfl (lv_at hl 1 rfl) ?_
      have hi_44 := h.1
      have h := h.2
      obtain ⟨p_44, hp_44⟩ := cget_24 cI cZ cP cF q_25 S_25 hi_44
      refine va_get (D := D) (ci := 8) (v := .int (cv S_25 247 y25_1 0)) (C := RX8) (T := TX8) (N := 10) hx hb hts (fun _ h => List.mem_cons_of_mem _ (List.mem_append_left _ (List.mem_append_left _ (List.mem_append_left _ (List.mem_append_right _ h))))) hown hK hP p_44 hp_44 rfl 7 (by decide) (hts (.fieldLink RX6 28 "TemplateForge$Program" "length" "I") (List.mem_of_getElem? (i := 28) rfl)) (fun _ h9 => h9) rfl dX6_goOver_27 ?_
      refine lv_if_ne (tgt := 37) hx hb dX6_goOver_30 (by decide) (fun c_45 => ?_) (fun c_45 => ?_)
      · have h := h.1 c_45
        refine lv_iconst (v := 0) hx hb dX6_goOver_37 (by decide) ?_
        obtain ⟨p_46, hp_46⟩ := cget_10 cI cZ cP cF q_25 S_25
        have hi_46 : cin S_25 10 0 := Or.inl ⟨by decide, rfl⟩
        have hD0_46 := hD
        refine va_put (D := D) (ci := 6) (v := .int 0) (ty := .int) (C := RX6) (T := TX6) (N := 4) hx hb hts (fun _ h => List.mem_cons_of_mem _ (List.mem_append_left _ (List.mem_append_left _ (List.mem_append_left _ (List.mem_append_left _ (List.mem_append_right _ h)))))) tyX6 tyX6_ok nmX6 hown hK hP hD hS p_46 hp_46 rfl 3 (by decide) (hts (.fieldLink RX6 32 "TemplateForge$Looker" "found" "I") (List.mem_of_getElem? (i := 1) rfl)) (fun _ h9 => h9) rfl (by decide +kernel) rfl rfl (Nat.le_of_ble_eq_true rfl) dX6_goOver_38 (fun H locs hP hD hS => ?_)
        obtain ⟨S47, eS47⟩ : ∃ z, z = cs S_25 103 0 (fun _ => 0) := ⟨_, rfl⟩
        have hP : va_P D vwCl (cW cI cZ cP cF q_25 S47) H := by rw [eS47, ← cW_put (k := 103) (κ := 10) (i := 0) (g := (fun _ => 0)) rfl hD0_46 hp_46 hi_46, cput_103]; exact hP
        have hD : va_D A (cW cI cZ cP cF q_25 S47) := by rw [eS47, ← cW_put (k := 103) (κ := 10) (i := 0) (g := (fun _ => 0)) rfl hD0_46 hp_46 hi_46, cput_103]; exact hD
        have hN := cA_keep hN (S2 := S47) ((congrArg Prod.snd eS47).trans rfl)
        have h := h S47 eS47
        exact J_41  q_25 S47 y25_1 H locs _ _ _ h hP hD hS hN (lv_sub hl [0, 1] rfl)
      · have h := h.2 c_45
        refine lv_iconst (v := 5) hx hb dX6_goOver_33 (by decide) ?_
        refine lv_goto (tgt := 38) hx hb dX6_goOver_34 (by decide) ?_
        obtain ⟨p_48, hp_48⟩ := cget_10 cI cZ cP cF q_25 S_25
        have hi_48 : cin S_25 10 0 := Or.inl ⟨by decide, rfl⟩
        have hD0_48 := hD
        refine va_put (D := D) (ci := 6) (v := .int 5) (ty := .int) (C := RX6) (T := TX6) (N := 4) hx hb hts (fun _ h => List.mem_cons_of_mem _ (List.mem_append_left _ (List.mem_append_left _ (List.mem_append_left _ (List.mem_append_left _ (List.mem_append_right _ h)))))) tyX6 tyX6_ok nmX6 hown hK hP hD hS p_48 hp_48 rfl 3 (by decide) (hts (.fieldLink RX6 32 "TemplateForge$Looker" "found" "I") (List.mem_of_getElem? (i := 1) rfl)) (fun _ h9 => h9) rfl (by decide +kernel) rfl rfl (Nat.le_of_ble_eq_true rfl) dX6_goOver_38 (fun H locs hP hD hS => ?_)
        obtain ⟨S49, eS49⟩ : ∃ z, z = cs S_25 103 0 (fun _ => 5) := ⟨_, rfl⟩
        have hP : va_P D vwCl (cW cI cZ cP cF q_25 S49) H := by rw [eS49, ← cW_put (k := 103) (κ := 10) (i := 0) (g := (fun _ => 5)) rfl hD0_48 hp_48 hi_48, cput_103]; exact hP
        have hD : va_D A (cW cI cZ cP cF q_25 S49) := by rw [eS49, ← cW_put (k := 103) (κ := 10) (i := 0) (g := (fun _ => 5)) rfl hD0_48 hp_48 hi_48, cput_103]; exact hD
        have hN := cA_keep hN (S2 := S49) ((congrArg Prod.snd eS49).trans rfl)
        have h := h S49 eS49
        exact J_41  q_25 S49 y25_1 H locs _ _ _ h hP hD hS hN (lv_sub hl [0, 1] rfl)
    have LP_6 : ∀ (n_6 : Nat), ∀ (q_6 : Nat → Nat → Nat) (S_6 : CST) (y6_1 : Nat) (x6_2 : Int32) (H : Heap) (locs : List Loc) (cells slots : Nat) (ls : Array Slot), wl_X6_goOver_6 (fun S_25 y25_1 => cin S_25 24 y25_1 ∧ (((¬ (((cv S_25 247 y25_1 0) : Int32) = 0)) → (∀ S47 : CST, S47 = cs S_25 103 0 (fun _ => 0) → (wj_X6_goOver_41 S47 y25_1 Post))) ∧ ((((cv S_25 247 y25_1 0) : Int32) = 0) → (∀ S49 : CST, S49 = cs S_25 103 0 (fun _ => 5) → (wj_X6_goOver_41 S49 y25_1 Post))))) Post n_6 S_6 y6_1 x6_2 → va_P D vwCl (cW cI cZ cP cF q_6 S_6) H → va_D A (cW cI cZ cP cF q_6 S_6) → va_S A s.heap H locs → cA q S q_6 S_6 cells slots → lv_has ls 4 [(0, .ref (q_6 10 0)), (1, .ref (q_6 24 y6_1)), (2, .int x6_2)] → W p l e (headSpec zw_zd_X6_goOver ({ frames := 4, cells := rmc S, slots := rms S, locals := 128 })).room s m ([.ref (q 10 0), .ref (q 24 i1)] : List Value).toArray below meth c H locs cells slots (MQV below (xQi (fun S' r => Post S' r) (fun (q' : Nat → Nat → Nat) (S' : CST) k n t => va_P D vwCl (cW cI cZ cP cF q' S') t.heap ∧ va_D A (cW cI cZ cP cF q' S') ∧ cA q S q' S' k n) A) ([.ref (q 10 0), .ref (q 24 i1)] : List Value).toArray s A) (F0 m 6 ls []) := by
      intro n_6
      induction n_6 with
      | zero =>
        intro q_6 S_6 y6_1 x6_2 H locs cells slots ls h hP hD hS hN hl
        exact False.elim h
      | succ n_6 ih_6 =>
        intro q_6 S_6 y6_1 x6_2 H locs cells slots ls h hP hD hS hN hl
        unfold wl_X6_goOver_6 at h
        refine lv_iload_n hx hb dX6_goOver_6 rfl (lv_at hl 2 rfl) ?_
        refine lv_bipush (v := 60) hx hb dX6_goOver_7 (by decide) ?_
        refine lv_icmp_ge (tgt := 25) hx hb dX6_goOver_9 (by decide) (fun c_50 => ?_) (fun c_50 => ?_)
        · have h := h.1 c_50
          exact EX_6_25  q_6 S_6 y6_1 H locs _ _ _ h hP hD hS hN (lv_sub hl [0, 1] rfl)
        · have h := h.2 c_50
          refine lv_aload_n hx hb dX6_goOver_12 rfl (lv_at hl 0 rfl) ?_
          obtain ⟨p_51, hp_51⟩ := cget_10 cI cZ cP cF q_6 S_6
          have hi_51 : cin S_6 10 0 := Or.inl ⟨by decide, rfl⟩
          refine va_get (D := D) (ci := 6) (v := .ref (q_6 11 0)) (C := RX6) (T := TX6) (N := 4) hx hb hts (fun _ h => List.mem_cons_of_mem _ (List.mem_append_left _ (List.mem_append_left _ (List.mem_append_left _ (List.mem_append_left _ (List.mem_append_right _ h)))))) hown hK hP p_51 hp_51 rfl 2 (by decide) (hts (.fieldLink RX6 9 "TemplateForge$Looker" "waiting" "[Z") (List.mem_of_getElem? (i := 22) rfl)) (fun _ h9 => h9) rfl dX6_goOver_13 ?_
          refine lv_iload_n hx hb dX6_goOver_16 rfl (lv_at hl 2 rfl) ?_
          refine lv_iconst (v := 0) hx hb dX6_goOver_17 (by decide) ?_
          obtain ⟨p_52, hp_52⟩ := cget_11 cI cZ cP cF q_6 S_6
          have hi_52 : cin S_6 11 0 := Or.inl ⟨by decide, rfl⟩
          have hin_52 := h.1
          have h := h.2
          have hD0_52 := hD
          refine va_zast hx hb hK hP hD hS p_52 1 hp_52 rfl hin_52 dX6_goOver_18 (fun H locs hP hD hS => ?_)
          obtain ⟨S53, eS53⟩ : ∃ z, z = cs S_6 110 0 (upd (cv S_6 110 0) (x6_2 : Int32).toNatClampNeg (vp_nar .boolean 0)) := ⟨_, rfl⟩
          have hP : va_P D vwCl (cW cI cZ cP cF q_6 S53) H := by rw [eS53, ← cW_put (k := 110) (κ := 11) (i := 0) (g := (upd (cv S_6 110 0) (x6_2 : Int32).toNatClampNeg (vp_nar .boolean 0))) rfl hD0_52 hp_52 hi_52, cput_110]; exact hP
          have hD : va_D A (cW cI cZ cP cF q_6 S53) := by rw [eS53, ← cW_put (k := 110) (κ := 11) (i := 0) (g := (upd (cv S_6 110 0) (x6_2 : Int32).toNatClampNeg (vp_nar .boolean 0))) rfl hD0_52 hp_52 hi_52, cput_110]; exact hD
          have hN := cA_keep hN (S2 := S53) ((congrArg Prod.snd eS53).trans rfl)
          have h := h S53 eS53
          refine lv_iinc (v := x6_2 + 1) (lv' := [(2, .int (x6_2 + 1)), (0, .ref (q_6 10 0)), (1, .ref (q_6 24 y6_1))]) hx hb dX6_goOver_19 hl (k := 2) rfl rfl (by decide) rfl (fun ls hl => ?_)
          refine lv_goto (tgt := 6) hx hb dX6_goOver_22 (by decide) ?_
          exact ih_6  q_6 S53 y6_1 (x6_2 + 1) H locs _ _ _ h hP hD hS hN (lv_sub hl [1, 2, 0] rfl)
    obtain ⟨n_6, h⟩ := h
    exact LP_6 n_6 q S43 i1 0 H locs _ _ _ h hP hD hS hN (lv_sub hl [1, 2, 0] rfl)
  exact key _ _ 0 0 hP va_S.rf (cA_rf hcap)

def wl_X9_forge_37 (K_154 : CST → Nat → Int32 → Prop) (Post : CST → Nat → Prop) : Nat → CST → Nat → Int32 → Int32 → Prop
  | 0, _, _, _, _ => False
  | n_37 + 1, S_37, y37_1, x37_2, x37_3 => cin S_37 24 y37_1 ∧ ((((cv S_37 247 y37_1 0) ≤ x37_3) → ((K_154 S_37 y37_1 x37_2))) ∧ ((¬ ((cv S_37 247 y37_1 0) ≤ x37_3)) → (cin S_37 24 y37_1 ∧ (wp_X8_isDead S_37 y37_1 x37_3 (fun r25 => (((r25 : Int32) = 0) → ((((x37_3 : Int32) = 0) → ((((x37_3 : Int32) ≤ 0) → (cin S_37 24 y37_1 ∧ (wp_X9_knowArgsAlone S_37 y37_1 (fun S31 => wp_X3_begin S31 x37_3 (fun S34 => wp_X9_wantsTemplate S34 y37_1 x37_3 (fun S36 r36 => (((r36 : Int32) = 0) → (cin S36 24 y37_1 ∧ (wp_X8_opAt S36 y37_1 x37_3 (fun r39 => ((¬ ((r39 : Int32) = 11)) → (wl_X9_forge_37 K_154 Post n_37 S36 y37_1 x37_2 (x37_3 + 1))) ∧ (((r39 : Int32) = 11) → (cin S36 24 y37_1 ∧ (wp_X9_addGuards S36 y37_1 3 x37_3 (fun S43 => wl_X9_forge_37 K_154 Post n_37 S43 y37_1 x37_2 (x37_3 + 1))))))))) ∧ ((¬ ((r36 : Int32) = 0)) → (wp_X3_addTemplate S36 y37_1 x37_3 (fun S46 => cin S46 24 y37_1 ∧ (wp_X8_opAt S46 y37_1 x37_3 (fun r48 => ((¬ ((r48 : Int32) = 11)) → (wl_X9_forge_37 K_154 Post n_37 S46 y37_1 x37_2 (x37_3 + 1))) ∧ (((r48 : Int32) = 11) → (cin S46 24 y37_1 ∧ (wp_X9_addGuards S46 y37_1 3 x37_3 (fun S52 => wl_X9_forge_37 K_154 Post n_37 S52 y37_1 x37_2 (x37_3 + 1)))))))))))))))) ∧ ((¬ ((x37_3 : Int32) ≤ 0)) → (cin S_37 24 y37_1 ∧ (wp_X8_goesOnAt S_37 y37_1 (x37_3 - 1) (fun r54 => (((r54 : Int32) = 0) → (cin S_37 24 y37_1 ∧ (wp_X9_knowArgsAlone S_37 y37_1 (fun S58 => wp_X3_begin S58 x37_3 (fun S61 => wp_X9_wantsTemplate S61 y37_1 x37_3 (fun S63 r63 => (((r63 : Int32) = 0) → (cin S63 24 y37_1 ∧ (wp_X8_opAt S63 y37_1 x37_3 (fun r66 => ((¬ ((r66 : Int32) = 11)) → (wl_X9_forge_37 K_154 Post n_37 S63 y37_1 x37_2 (x37_3 + 1))) ∧ (((r66 : Int32) = 11) → (cin S63 24 y37_1 ∧ (wp_X9_addGuards S63 y37_1 3 x37_3 (fun S70 => wl_X9_forge_37 K_154 Post n_37 S70 y37_1 x37_2 (x37_3 + 1))))))))) ∧ ((¬ ((r63 : Int32) = 0)) → (wp_X3_addTemplate S63 y37_1 x37_3 (fun S73 => cin S73 24 y37_1 ∧ (wp_X8_opAt S73 y37_1 x37_3 (fun r75 => ((¬ ((r75 : Int32) = 11)) → (wl_X9_forge_37 K_154 Post n_37 S73 y37_1 x37_2 (x37_3 + 1))) ∧ (((r75 : Int32) = 11) → (cin S73 24 y37_1 ∧ (wp_X9_addGuards S73 y37_1 3 x37_3 (fun S79 => wl_X9_forge_37 K_154 Post n_37 S79 y37_1 x37_2 (x37_3 + 1)))))))))))))))) ∧ ((¬ ((r54 : Int32) = 0)) → (wp_X9_lay S_37 7 14 (x37_3 - 1) (fun S81 => cin S81 24 y37_1 ∧ (wp_X9_knowArgsAlone S81 y37_1 (fun S84 => wp_X3_begin S84 x37_3 (fun S87 => wp_X9_wantsTemplate S87 y37_1 x37_3 (fun S89 r89 => (((r89 : Int32) = 0) → (cin S89 24 y37_1 ∧ (wp_X8_opAt S89 y37_1 x37_3 (fun r92 => ((¬ ((r92 : Int32) = 11)) → (wl_X9_forge_37 K_154 Post n_37 S89 y37_1 x37_2 (x37_3 + 1))) ∧ (((r92 : Int32) = 11) → (cin S89 24 y37_1 ∧ (wp_X9_addGuards S89 y37_1 3 x37_3 (fun S96 => wl_X9_forge_37 K_154 Post n_37 S96 y37_1 x37_2 (x37_3 + 1))))))))) ∧ ((¬ ((r89 : Int32) = 0)) → (wp_X3_addTemplate S89 y37_1 x37_3 (fun S99 => cin S99 24 y37_1 ∧ (wp_X8_opAt S99 y37_1 x37_3 (fun r101 => ((¬ ((r101 : Int32) = 11)) → (wl_X9_forge_37 K_154 Post n_37 S99 y37_1 x37_2 (x37_3 + 1))) ∧ (((r101 : Int32) = 11) → (cin S99 24 y37_1 ∧ (wp_X9_addGuards S99 y37_1 3 x37_3 (fun S105 => wl_X9_forge_37 K_154 Post n_37 S105 y37_1 x37_2 (x37_3 + 1))))))))))))))))))))))) ∧ ((¬ ((x37_3 : Int32) = 0)) → (vp_in x37_3 60 ∧ (((((cv S_37 180 0 (x37_3 : Int32).toNatClampNeg) : Int32) = 0) → (wp_X3_begin S_37 x37_3 (fun S111 => wp_X9_wantsTemplate S111 y37_1 x37_3 (fun S113 r113 => (((r113 : Int32) = 0) → (cin S113 24 y37_1 ∧ (wp_X8_opAt S113 y37_1 x37_3 (fun r116 => ((¬ ((r116 : Int32) = 11)) → (wl_X9_forge_37 K_154 Post n_37 S113 y37_1 x37_2 (x37_3 + 1))) ∧ (((r116 : Int32) = 11) → (cin S113 24 y37_1 ∧ (wp_X9_addGuards S113 y37_1 3 x37_3 (fun S120 => wl_X9_forge_37 K_154 Post n_37 S120 y37_1 x37_2 (x37_3 + 1))))))))) ∧ ((¬ ((r113 : Int32) = 0)) → (wp_X3_addTemplate S113 y37_1 x37_3 (fun S123 => cin S123 24 y37_1 ∧ (wp_X8_opAt S123 y37_1 x37_3 (fun r125 => ((¬ ((r125 : Int32) = 11)) → (wl_X9_forge_37 K_154 Post n_37 S123 y37_1 x37_2 (x37_3 + 1))) ∧ (((r125 : Int32) = 11) → (cin S123 24 y37_1 ∧ (wp_X9_addGuards S123 y37_1 3 x37_3 (fun S129 => wl_X9_forge_37 K_154 Post n_37 S129 y37_1 x37_2 (x37_3 + 1)))))))))))))) ∧ ((¬ (((cv S_37 180 0 (x37_3 : Int32).toNatClampNeg) : Int32) = 0)) → ((((x37_3 : Int32) ≤ 0) → (cin S_37 24 y37_1 ∧ (wp_X9_knowArgsAlone S_37 y37_1 (fun S133 => wp_X3_begin S133 x37_3 (fun S136 => wp_X9_wantsTemplate S136 y37_1 x37_3 (fun S138 r138 => (((r138 : Int32) = 0) → (cin S138 24 y37_1 ∧ (wp_X8_opAt S138 y37_1 x37_3 (fun r141 => ((¬ ((r141 : Int32) = 11)) → (wl_X9_forge_37 K_154 Post n_37 S138 y37_1 x37_2 (x37_3 + 1))) ∧ (((r141 : Int32) = 11) → (cin S138 24 y37_1 ∧ (wp_X9_addGuards S138 y37_1 3 x37_3 (fun S145 => wl_X9_forge_37 K_154 Post n_37 S145 y37_1 x37_2 (x37_3 + 1))))))))) ∧ ((¬ ((r138 : Int32) = 0)) → (wp_X3_addTemplate S138 y37_1 x37_3 (fun S148 => cin S148 24 y37_1 ∧ (wp_X8_opAt S148 y37_1 x37_3 (fun r150 => ((¬ ((r150 : Int32) = 11)) → (wl_X9_forge_37 K_154 Post n_37 S148 y37_1 x37_2 (x37_3 + 1))) ∧ (((r150 : Int32) = 11) → (cin S148 24 y37_1 ∧ (wp_X9_addGuards S148 y37_1 3 x37_3 (fun S154 => wl_X9_forge_37 K_154 Post n_37 S154 y37_1 x37_2 (x37_3 + 1)))))))))))))))) ∧ ((¬ ((x37_3 : Int32) ≤ 0)) → (cin S_37 24 y37_1 ∧ (wp_X8_goesOnAt S_37 y37_1 (x37_3 - 1) (fun r156 => (((r156 : Int32) = 0) → (cin S_37 24 y37_1 ∧ (wp_X9_knowArgsAlone S_37 y37_1 (fun S160 => wp_X3_begin S160 x37_3 (fun S163 => wp_X9_wantsTemplate S163 y37_1 x37_3 (fun S165 r165 => (((r165 : Int32) = 0) → (cin S165 24 y37_1 ∧ (wp_X8_opAt S165 y37_1 x37_3 (fun r168 => ((¬ ((r168 : Int32) = 11)) → (wl_X9_forge_37 K_154 Post n_37 S165 y37_1 x37_2 (x37_3 + 1))) ∧ (((r168 : Int32) = 11) → (cin S165 24 y37_1 ∧ (wp_X9_addGuards S165 y37_1 3 x37_3 (fun S172 => wl_X9_forge_37 K_154 Post n_37 S172 y37_1 x37_2 (x37_3 + 1))))))))) ∧ ((¬ ((r165 : Int32) = 0)) → (wp_X3_addTemplate S165 y37_1 x37_3 (fun S175 => cin S175 24 y37_1 ∧ (wp_X8_opAt S175 y37_1 x37_3 (fun r177 => ((¬ ((r177 : Int32) = 11)) → (wl_X9_forge_37 K_154 Post n_37 S175 y37_1 x37_2 (x37_3 + 1))) ∧ (((r177 : Int32) = 11) → (cin S175 24 y37_1 ∧ (wp_X9_addGuards S175 y37_1 3 x37_3 (fun S181 => wl_X9_forge_37 K_154 Post n_37 S181 y37_1 x37_2 (x37_3 + 1)))))))))))))))) ∧ ((¬ ((r156 : Int32) = 0)) → (wp_X9_lay S_37 7 14 (x37_3 - 1) (fun S183 => cin S183 24 y37_1 ∧ (wp_X9_knowArgsAlone S183 y37_1 (fun S186 => wp_X3_begin S186 x37_3 (fun S189 => wp_X9_wantsTemplate S189 y37_1 x37_3 (fun S191 r191 => (((r191 : Int32) = 0) → (cin S191 24 y37_1 ∧ (wp_X8_opAt S191 y37_1 x37_3 (fun r194 => ((¬ ((r194 : Int32) = 11)) → (wl_X9_forge_37 K_154 Post n_37 S191 y37_1 x37_2 (x37_3 + 1))) ∧ (((r194 : Int32) = 11) → (cin S191 24 y37_1 ∧ (wp_X9_addGuards S191 y37_1 3 x37_3 (fun S198 => wl_X9_forge_37 K_154 Post n_37 S198 y37_1 x37_2 (x37_3 + 1))))))))) ∧ ((¬ ((r191 : Int32) = 0)) → (wp_X3_addTemplate S191 y37_1 x37_3 (fun S201 => cin S201 24 y37_1 ∧ (wp_X8_opAt S201 y37_1 x37_3 (fun r203 => ((¬ ((r203 : Int32) = 11)) → (wl_X9_forge_37 K_154 Post n_37 S201 y37_1 x37_2 (x37_3 + 1))) ∧ (((r203 : Int32) = 11) → (cin S201 24 y37_1 ∧ (wp_X9_addGuards S201 y37_1 3 x37_3 (fun S207 => wl_X9_forge_37 K_154 Post n_37 S207 y37_1 x37_2 (x37_3 + 1)))))))))))))))))))))))))))) ∧ ((¬ ((r25 : Int32) = 0)) → (wl_X9_forge_37 K_154 Post n_37 S_37 y37_1 x37_2 (x37_3 + 1))))))))
def wp_X9_forge (S : CST) (i1 : Nat) (Post : CST → Nat → Prop) : Prop :=
  wp_X3_clear S  (fun S3 => wp_X9_findTargets S3 i1 (fun S5 => wp_X9_assume S5 i1 (fun S7 => cin S7 24 i1 ∧ (wp_X9_addGuards S7 i1 0 0 (fun S10 => wp_X3_parts S10  (fun r13 => ∃ n_37, wl_X9_forge_37 (fun S_154 y154_1 x154_2 => cin S_154 24 y154_1 ∧ (cin S_154 28 y154_1 ∧ (cin S_154 24 y154_1 ∧ (cin S_154 24 y154_1 ∧ (wp_X3_finish S_154 ((cv S_154 283 y154_1 0) + 1) x154_2 (cv S_154 247 y154_1 0) (fun S21 r21 => Post S21 r21)))))) Post n_37 S10 i1 r13 0))))))
def zw_zd_X9_forge_w0 : List Cond := [.fieldLink RX9 25 "TemplateForge$Smith" "draft" "LTemplateForge$Draft;", .code yX3_clear cX3_clear 1 none, .fieldLink RX3 18 "TemplateForge$Draft" "parts" "I", .fieldLink RX3 15 "TemplateForge$Draft" "starts" "[I", .code yJ7_fill_53178 cJ7_fill_53178 4 none, .methodLink RX3 22 yJ7_fill_53178, .static yJ7_fill_53178, .initialized RJ7, .methodLink RX9 29 yX3_clear, .instanceMethod yX3_clear, .selects RX3 yX3_clear yX3_clear, .initialized RX3, .code yX9_findTargets cX9_findTargets 5 none, .fieldLink RX9 55 "TemplateForge$Program" "length" "I", .code yX8_opAt cX8_opAt 2 (some .int), .code yX8_has cX8_has 2 (some .boolean)]
def zw_zd_X9_forge_w1 : List Cond := [.fieldLink RX8 41 "TemplateForge$Program" "length" "I", .methodLink RX8 44 yX8_has, .instanceMethod yX8_has, .selects RX8 yX8_has yX8_has, .initialized RX8, .fieldLink RX8 18 "TemplateForge$Program" "ops" "[I", .methodLink RX9 86 yX8_opAt, .instanceMethod yX8_opAt, .selects RX8 yX8_opAt yX8_opAt, .code yX8_xAt cX8_xAt 2 (some .int), .fieldLink RX8 22 "TemplateForge$Program" "xs" "[I", .methodLink RX9 99 yX8_xAt, .instanceMethod yX8_xAt, .selects RX8 yX8_xAt yX8_xAt, .code yX8_isDead cX8_isDead 2 (some .boolean), .fieldLink RX8 25 "TemplateForge$Program" "depths" "[I"]
def zw_zd_X9_forge_w2 : List Cond := [.methodLink RX9 59 yX8_isDead, .instanceMethod yX8_isDead, .selects RX8 yX8_isDead yX8_isDead, .fieldLink RX9 19 "TemplateForge$Smith" "target" "[Z", .methodLink RX9 34 yX9_findTargets, .instanceMethod yX9_findTargets, .selects RX9 yX9_findTargets yX9_findTargets, .initialized RX9, .code yX9_assume cX9_assume 5 none, .fieldLink RX9 22 "TemplateForge$Smith" "assumed" "[Z", .fieldLink RX9 41 "TemplateForge$Program" "heat" "LTemplateForge$Heat;", .code yX5_wasAlways cX5_wasAlways 2 (some .boolean), .fieldLink RX5 26 "TemplateForge$Heat" "counted" "I", .fieldLink RX5 15 "TemplateForge$Heat" "same" "[Z", .fieldLink RX5 19 "TemplateForge$Heat" "varying" "[Z", .methodLink RX9 105 yX5_wasAlways]
def zw_zd_X9_forge_w3 : List Cond := [.instanceMethod yX5_wasAlways, .selects RX5 yX5_wasAlways yX5_wasAlways, .initialized RX5, .code yX9_uses cX9_uses 5 (some .boolean), .methodLink RX9 108 yX9_uses, .instanceMethod yX9_uses, .selects RX9 yX9_uses yX9_uses, .fieldLink RX9 102 "TemplateForge$Program" "args" "I", .methodLink RX9 38 yX9_assume, .instanceMethod yX9_assume, .selects RX9 yX9_assume yX9_assume, .code yX9_addGuards cX9_addGuards 6 none, .methodLink RX9 112 Lib.Math.max.name, .static Lib.Math.max.name, .initialized "java/lang/Math", .code Lib.Math.max.name Lib.Math.max.code 2 (some .int)]
def zw_zd_X9_forge_w4 : List Cond := [.code yX5_valueOf cX5_valueOf 2 (some .int), .fieldLink RX5 9 "TemplateForge$Heat" "first" "[I", .methodLink RX9 118 yX5_valueOf, .instanceMethod yX5_valueOf, .selects RX5 yX5_valueOf yX5_valueOf, .code yX3_add cX3_add 7 none, .fieldLink RX3 9 "TemplateForge$Draft" "cells" "[I", .methodLink RX9 121 yX3_add, .instanceMethod yX3_add, .selects RX3 yX3_add yX3_add, .methodLink RX9 47 yX9_addGuards, .instanceMethod yX9_addGuards, .selects RX9 yX9_addGuards yX9_addGuards, .code yX3_parts cX3_parts 1 (some .int), .methodLink RX9 51 yX3_parts, .instanceMethod yX3_parts]
def zw_zd_X9_forge_w5 : List Cond := [.selects RX3 yX3_parts yX3_parts, .fieldLink RX9 90 "TemplateForge$Heat" "made" "I", .code yX3_finish cX3_finish 5 (some (.object "TemplateForge$Code")), .methodLink RX3 48 Lib.Math.max.name, .code yJ7_copyOf_59c91 cJ7_copyOf_59c91 3 (some (.array .int)), .methodLink RJ7 316 ⟨"[I", "clone", "()Ljava/lang/Object;"⟩, .sameMethod "[I" "java/lang/Object" "clone" "()Ljava/lang/Object;", .native ⟨"java/lang/Object", "clone", "()Ljava/lang/Object;"⟩, .instanceMethod ⟨"java/lang/Object", "clone", "()Ljava/lang/Object;"⟩, .selects "[I" ⟨"[I", "clone", "()Ljava/lang/Object;"⟩ ⟨"java/lang/Object", "clone", "()Ljava/lang/Object;"⟩, .classLink RJ7 317 "[I", .arrayClass .int, .methodLink RJ7 304 Lib.Math.min.name, .static Lib.Math.min.name, .code Lib.Math.min.name Lib.Math.min.code 2 (some .int), .methodLink RJ7 150 arraycopyName]
def zw_zd_X9_forge_w6 : List Cond := [.native arraycopyName, .static arraycopyName, .initialized "java/lang/System", .methodLink RX3 54 yJ7_copyOf_59c91, .static yJ7_copyOf_59c91, .classLink RX3 58 RX1, .instantiable RX1 4, .initialized RX1, .code yX1_init cX1_init 5 none, .methodLink RX1 3 objectInit, .instanceMethod objectInit, .code objectInit ⟨#[0xb1]⟩ 1 none, .fieldLink RX1 9 "TemplateForge$Code" "making" "I", .fieldLink RX1 15 "TemplateForge$Code" "heads" "I", .fieldLink RX1 18 "TemplateForge$Code" "cells" "[I", .fieldLink RX1 22 "TemplateForge$Code" "starts" "[I"]
def zw_zd_X9_forge_w7 : List Cond := [.methodLink RX3 60 yX1_init, .instanceMethod yX1_init, .methodLink RX9 95 yX3_finish, .instanceMethod yX3_finish, .selects RX3 yX3_finish yX3_finish, .code yX9_knowArgsAlone cX9_knowArgsAlone 3 none, .code yX9_know cX9_know 3 none, .fieldLink RX9 9 "TemplateForge$Smith" "known" "[Z", .fieldLink RX9 15 "TemplateForge$Smith" "worth" "[I", .methodLink RX9 125 yX9_know, .instanceMethod yX9_know, .selects RX9 yX9_know yX9_know, .methodLink RX9 70 yX9_knowArgsAlone, .instanceMethod yX9_knowArgsAlone, .selects RX9 yX9_knowArgsAlone yX9_knowArgsAlone, .code yX3_begin cX3_begin 2 none]
def zw_zd_X9_forge_w8 : List Cond := [.methodLink RX9 74 yX3_begin, .instanceMethod yX3_begin, .selects RX3 yX3_begin yX3_begin, .code yX9_wantsTemplate cX9_wantsTemplate 6 (some .boolean), .code yX8_depthAt cX8_depthAt 2 (some .int), .methodLink RX9 129 yX8_depthAt, .instanceMethod yX8_depthAt, .selects RX8 yX8_depthAt yX8_depthAt, .code yX9_isResultKnown cX9_isResultKnown 6 (some .boolean), .code yX9_isKnown cX9_isKnown 2 (some .boolean), .methodLink RX9 154 yX9_isKnown, .instanceMethod yX9_isKnown, .selects RX9 yX9_isKnown yX9_isKnown, .code yX9_lay cX9_lay 5 none, .methodLink RX9 66 yX9_lay, .instanceMethod yX9_lay]
def zw_zd_X9_forge_w9 : List Cond := [.selects RX9 yX9_lay yX9_lay, .code yX9_worthOf cX9_worthOf 2 (some .int), .methodLink RX9 157 yX9_worthOf, .instanceMethod yX9_worthOf, .selects RX9 yX9_worthOf yX9_worthOf, .code yX11_reckoned cX11_reckoned 3 (some .int), .static yX11_reckoned, .initialized RX11, .code yX9_forget cX9_forget 2 none, .methodLink RX9 140 yX9_forget, .instanceMethod yX9_forget, .selects RX9 yX9_forget yX9_forget, .methodLink RX9 150 yX9_isResultKnown, .instanceMethod yX9_isResultKnown, .selects RX9 yX9_isResultKnown yX9_isResultKnown, .code yX9_isCopyKnown cX9_isCopyKnown 3 (some .boolean)]
def zw_zd_X9_forge_w10 : List Cond := [.methodLink RX9 132 yX9_isCopyKnown, .instanceMethod yX9_isCopyKnown, .selects RX9 yX9_isCopyKnown yX9_isCopyKnown, .code yX9_isStoredKnown cX9_isStoredKnown 4 (some .boolean), .methodLink RX9 136 yX9_isStoredKnown, .instanceMethod yX9_isStoredKnown, .selects RX9 yX9_isStoredKnown yX9_isStoredKnown, .code yX9_isWaySure cX9_isWaySure 4 (some .boolean), .methodLink RX9 143 yX9_isWaySure, .instanceMethod yX9_isWaySure, .selects RX9 yX9_isWaySure yX9_isWaySure, .code yX9_isFieldKnown cX9_isFieldKnown 5 (some .boolean), .methodLink RX9 146 yX9_isFieldKnown, .instanceMethod yX9_isFieldKnown, .selects RX9 yX9_isFieldKnown yX9_isFieldKnown, .methodLink RX9 78 yX9_wantsTemplate]
def zw_zd_X9_forge_w11 : List Cond := [.instanceMethod yX9_wantsTemplate, .selects RX9 yX9_wantsTemplate yX9_wantsTemplate, .code yX3_addTemplate cX3_addTemplate 6 none, .methodLink RX3 28 yX8_opAt, .methodLink RX3 34 yX8_xAt, .methodLink RX3 37 yX8_depthAt, .code yX3_addReckoning cX3_addReckoning 5 none, .methodLink RX3 40 yX3_add, .methodLink RX3 44 yX3_addReckoning, .instanceMethod yX3_addReckoning, .selects RX3 yX3_addReckoning yX3_addReckoning, .methodLink RX9 82 yX3_addTemplate, .instanceMethod yX3_addTemplate, .selects RX3 yX3_addTemplate yX3_addTemplate, .code yX8_goesOnAt cX8_goesOnAt 3 (some .boolean), .methodLink RX8 48 yX8_opAt]
def zw_zd_X9_forge_w12 : List Cond := [.methodLink RX8 52 yX8_isDead, .methodLink RX9 63 yX8_goesOnAt, .instanceMethod yX8_goesOnAt, .selects RX8 yX8_goesOnAt yX8_goesOnAt]
def zw_zd_X9_forge : List Cond := .code yX9_forge cX9_forge 4 (some (.object "TemplateForge$Code")) :: ((zw_zd_X9_forge_w0 ++ (zw_zd_X9_forge_w1 ++ (zw_zd_X9_forge_w2 ++ (zw_zd_X9_forge_w3 ++ (zw_zd_X9_forge_w4 ++ (zw_zd_X9_forge_w5 ++ (zw_zd_X9_forge_w6 ++ (zw_zd_X9_forge_w7 ++ (zw_zd_X9_forge_w8 ++ (zw_zd_X9_forge_w9 ++ (zw_zd_X9_forge_w10 ++ (zw_zd_X9_forge_w11 ++ (zw_zd_X9_forge_w12))))))))))))) ++ wsX90 ++ wsX30 ++ wsX80 ++ wsX50 ++ wsX10)
set_option maxRecDepth 100000 in
theorem zg_zd_X9_forge_zd_X3_clear_29_a : GoodIn zw_zd_X9_forge [.methodLink RX9 29 yX3_clear, .instanceMethod yX3_clear, .selects RX3 yX3_clear yX3_clear, .initialized RX3] := goodIn_r _ [9, 10, 11, 12] rfl (by decide +kernel)
set_option maxRecDepth 100000 in
theorem zg_zd_X9_forge_zd_X3_clear_29_c : GoodIn zw_zd_X9_forge [.code yX3_clear cX3_clear 1 none] := goodIn_r _ [2] rfl (by decide +kernel)
set_option maxRecDepth 100000 in
theorem zg_zd_X9_forge_zd_X3_clear_29_0 : GoodIn zw_zd_X9_forge zw_zd_X3_clear_w0 := goodIn_r _ [3, 4, 5, 6, 7, 8] rfl (by decide +kernel)
theorem zg_zd_X9_forge_zd_X3_clear_29 : GoodIn zw_zd_X9_forge (wsV RX9 29 RX3 yX3_clear zw_zd_X3_clear) := goodIn_app zg_zd_X9_forge_zd_X3_clear_29_a (goodIn_ca (a := (zw_zd_X3_clear_w0)) (show GoodIn zw_zd_X9_forge (.code yX3_clear cX3_clear 1 none :: (zw_zd_X3_clear_w0)) from goodIn_app zg_zd_X9_forge_zd_X3_clear_29_c (zg_zd_X9_forge_zd_X3_clear_29_0)) (fun w h => ⟨(fun _ h => List.mem_cons_of_mem _ (List.mem_append_left _ (List.mem_append_left _ (List.mem_append_left _ (List.mem_append_right _ h))))) w h, good_of_word (List.all_eq_true.mp zgw_X3 w h)⟩))
set_option maxRecDepth 100000 in
theorem zg_zd_X9_forge_zd_X9_findTargets_34_a : GoodIn zw_zd_X9_forge [.methodLink RX9 34 yX9_findTargets, .instanceMethod yX9_findTargets, .selects RX9 yX9_findTargets yX9_findTargets, .initialized RX9] := goodIn_r _ [37, 38, 39, 40] rfl (by decide +kernel)
set_option maxRecDepth 100000 in
theorem zg_zd_X9_forge_zd_X9_findTargets_34_c : GoodIn zw_zd_X9_forge [.code yX9_findTargets cX9_findTargets 5 none] := goodIn_r _ [13] rfl (by decide +kernel)
set_option maxRecDepth 100000 in
theorem zg_zd_X9_forge_zd_X9_findTargets_34_0 : GoodIn zw_zd_X9_forge zw_zd_X9_findTargets_w0 := goodIn_r _ [14, 15, 16, 17, 18, 19, 20, 21, 22, 23, 24, 25, 26, 27, 28, 29] rfl (by decide +kernel)
set_option maxRecDepth 100000 in
theorem zg_zd_X9_forge_zd_X9_findTargets_34_1 : GoodIn zw_zd_X9_forge zw_zd_X9_findTargets_w1 := goodIn_r _ [30, 31, 32, 33, 34, 35, 36] rfl (by decide +kernel)
theorem zg_zd_X9_forge_zd_X9_findTargets_34 : GoodIn zw_zd_X9_forge (wsV RX9 34 RX9 yX9_findTargets zw_zd_X9_findTargets) := goodIn_app zg_zd_X9_forge_zd_X9_findTargets_34_a (goodIn_ca (a := ((zw_zd_X9_findTargets_w0 ++ (zw_zd_X9_findTargets_w1)) ++ wsX80)) (goodIn_ca (a := (zw_zd_X9_findTargets_w0 ++ (zw_zd_X9_findTargets_w1))) (show GoodIn zw_zd_X9_forge (.code yX9_findTargets cX9_findTargets 5 none :: (zw_zd_X9_findTargets_w0 ++ (zw_zd_X9_findTargets_w1))) from goodIn_app zg_zd_X9_forge_zd_X9_findTargets_34_c (goodIn_app zg_zd_X9_forge_zd_X9_findTargets_34_0 (zg_zd_X9_forge_zd_X9_findTargets_34_1))) (fun w h => ⟨(fun _ h => List.mem_cons_of_mem _ (List.mem_append_left _ (List.mem_append_left _ (List.mem_append_right _ h)))) w h, good_of_word (List.all_eq_true.mp zgw_X8 w h)⟩)) (fun w h => ⟨(fun _ h => List.mem_cons_of_mem _ (List.mem_append_left _ (List.mem_append_left _ (List.mem_append_left _ (List.mem_append_left _ (List.mem_append_right _ h)))))) w h, good_of_word (List.all_eq_true.mp zgw_X9 w h)⟩))
set_option maxRecDepth 100000 in
theorem zg_zd_X9_forge_zd_X9_assume_38_a : GoodIn zw_zd_X9_forge [.methodLink RX9 38 yX9_assume, .instanceMethod yX9_assume, .selects RX9 yX9_assume yX9_assume, .initialized RX9] := goodIn_r _ [57, 58, 59, 40] rfl (by decide +kernel)
set_option maxRecDepth 100000 in
theorem zg_zd_X9_forge_zd_X9_assume_38_c : GoodIn zw_zd_X9_forge [.code yX9_assume cX9_assume 5 none] := goodIn_r _ [41] rfl (by decide +kernel)
set_option maxRecDepth 100000 in
theorem zg_zd_X9_forge_zd_X9_assume_38_0 : GoodIn zw_zd_X9_forge zw_zd_X9_assume_w0 := goodIn_r _ [42, 43, 44, 45, 46, 47, 48, 49, 50, 51, 52, 14, 15, 16, 17, 18] rfl (by decide +kernel)
set_option maxRecDepth 100000 in
theorem zg_zd_X9_forge_zd_X9_assume_38_1 : GoodIn zw_zd_X9_forge zw_zd_X9_assume_w1 := goodIn_r _ [19, 20, 21, 22, 23, 24, 25, 26, 27, 28, 29, 30, 31, 32, 33, 34] rfl (by decide +kernel)
set_option maxRecDepth 100000 in
theorem zg_zd_X9_forge_zd_X9_assume_38_2 : GoodIn zw_zd_X9_forge zw_zd_X9_assume_w2 := goodIn_r _ [35, 53, 54, 55, 40, 56] rfl (by decide +kernel)
theorem zg_zd_X9_forge_zd_X9_assume_38 : GoodIn zw_zd_X9_forge (wsV RX9 38 RX9 yX9_assume zw_zd_X9_assume) := goodIn_app zg_zd_X9_forge_zd_X9_assume_38_a (goodIn_ca (a := (((zw_zd_X9_assume_w0 ++ (zw_zd_X9_assume_w1 ++ (zw_zd_X9_assume_w2))) ++ wsX90) ++ wsX80)) (goodIn_ca (a := ((zw_zd_X9_assume_w0 ++ (zw_zd_X9_assume_w1 ++ (zw_zd_X9_assume_w2))) ++ wsX90)) (goodIn_ca (a := (zw_zd_X9_assume_w0 ++ (zw_zd_X9_assume_w1 ++ (zw_zd_X9_assume_w2)))) (show GoodIn zw_zd_X9_forge (.code yX9_assume cX9_assume 5 none :: (zw_zd_X9_assume_w0 ++ (zw_zd_X9_assume_w1 ++ (zw_zd_X9_assume_w2)))) from goodIn_app zg_zd_X9_forge_zd_X9_assume_38_c (goodIn_app zg_zd_X9_forge_zd_X9_assume_38_0 (goodIn_app zg_zd_X9_forge_zd_X9_assume_38_1 (zg_zd_X9_forge_zd_X9_assume_38_2)))) (fun w h => ⟨(fun _ h => List.mem_cons_of_mem _ (List.mem_append_left _ (List.mem_append_left _ (List.mem_append_left _ (List.mem_append_left _ (List.mem_append_right _ h)))))) w h, good_of_word (List.all_eq_true.mp zgw_X9 w h)⟩)) (fun w h => ⟨(fun _ h => List.mem_cons_of_mem _ (List.mem_append_left _ (List.mem_append_left _ (List.mem_append_right _ h)))) w h, good_of_word (List.all_eq_true.mp zgw_X8 w h)⟩)) (fun w h => ⟨(fun _ h => List.mem_cons_of_mem _ (List.mem_append_left _ (List.mem_append_right _ h))) w h, good_of_word (List.all_eq_true.mp zgw_X5 w h)⟩))
set_option maxRecDepth 100000 in
theorem zg_zd_X9_forge_zd_X9_addGuards_47_a : GoodIn zw_zd_X9_forge [.methodLink RX9 47 yX9_addGuards, .instanceMethod yX9_addGuards, .selects RX9 yX9_addGuards yX9_addGuards, .initialized RX9] := goodIn_r _ [75, 76, 77, 40] rfl (by decide +kernel)
set_option maxRecDepth 100000 in
theorem zg_zd_X9_forge_zd_X9_addGuards_47_c : GoodIn zw_zd_X9_forge [.code yX9_addGuards cX9_addGuards 6 none] := goodIn_r _ [60] rfl (by decide +kernel)
set_option maxRecDepth 100000 in
theorem zg_zd_X9_forge_zd_X9_addGuards_47_0 : GoodIn zw_zd_X9_forge zw_zd_X9_addGuards_w0 := goodIn_r _ [61, 62, 63, 64, 42, 1, 65, 66, 67, 68, 69, 51, 70, 3, 71, 72] rfl (by decide +kernel)
set_option maxRecDepth 100000 in
theorem zg_zd_X9_forge_zd_X9_addGuards_47_1 : GoodIn zw_zd_X9_forge zw_zd_X9_addGuards_w1 := goodIn_r _ [73, 74, 12] rfl (by decide +kernel)
theorem zg_zd_X9_forge_zd_X9_addGuards_47 : GoodIn zw_zd_X9_forge (wsV RX9 47 RX9 yX9_addGuards zw_zd_X9_addGuards) := goodIn_app zg_zd_X9_forge_zd_X9_addGuards_47_a (goodIn_ca (a := (((zw_zd_X9_addGuards_w0 ++ (zw_zd_X9_addGuards_w1)) ++ wsX90) ++ wsX50)) (goodIn_ca (a := ((zw_zd_X9_addGuards_w0 ++ (zw_zd_X9_addGuards_w1)) ++ wsX90)) (goodIn_ca (a := (zw_zd_X9_addGuards_w0 ++ (zw_zd_X9_addGuards_w1))) (show GoodIn zw_zd_X9_forge (.code yX9_addGuards cX9_addGuards 6 none :: (zw_zd_X9_addGuards_w0 ++ (zw_zd_X9_addGuards_w1))) from goodIn_app zg_zd_X9_forge_zd_X9_addGuards_47_c (goodIn_app zg_zd_X9_forge_zd_X9_addGuards_47_0 (zg_zd_X9_forge_zd_X9_addGuards_47_1))) (fun w h => ⟨(fun _ h => List.mem_cons_of_mem _ (List.mem_append_left _ (List.mem_append_left _ (List.mem_append_left _ (List.mem_append_left _ (List.mem_append_right _ h)))))) w h, good_of_word (List.all_eq_true.mp zgw_X9 w h)⟩)) (fun w h => ⟨(fun _ h => List.mem_cons_of_mem _ (List.mem_append_left _ (List.mem_append_right _ h))) w h, good_of_word (List.all_eq_true.mp zgw_X5 w h)⟩)) (fun w h => ⟨(fun _ h => List.mem_cons_of_mem _ (List.mem_append_left _ (List.mem_append_left _ (List.mem_append_left _ (List.mem_append_right _ h))))) w h, good_of_word (List.all_eq_true.mp zgw_X3 w h)⟩))
set_option maxRecDepth 100000 in
theorem zg_zd_X9_forge_zd_X3_parts_51_a : GoodIn zw_zd_X9_forge [.methodLink RX9 51 yX3_parts, .instanceMethod yX3_parts, .selects RX3 yX3_parts yX3_parts, .initialized RX3] := goodIn_r _ [79, 80, 81, 12] rfl (by decide +kernel)
set_option maxRecDepth 100000 in
theorem zg_zd_X9_forge_zd_X3_parts_51_c : GoodIn zw_zd_X9_forge [.code yX3_parts cX3_parts 1 (some .int)] := goodIn_r _ [78] rfl (by decide +kernel)
set_option maxRecDepth 100000 in
theorem zg_zd_X9_forge_zd_X3_parts_51_0 : GoodIn zw_zd_X9_forge zw_zd_X3_parts_w0 := goodIn_r _ [3] rfl (by decide +kernel)
theorem zg_zd_X9_forge_zd_X3_parts_51 : GoodIn zw_zd_X9_forge (wsV RX9 51 RX3 yX3_parts zw_zd_X3_parts) := goodIn_app zg_zd_X9_forge_zd_X3_parts_51_a (goodIn_ca (a := (zw_zd_X3_parts_w0)) (show GoodIn zw_zd_X9_forge (.code yX3_parts cX3_parts 1 (some .int) :: (zw_zd_X3_parts_w0)) from goodIn_app zg_zd_X9_forge_zd_X3_parts_51_c (zg_zd_X9_forge_zd_X3_parts_51_0)) (fun w h => ⟨(fun _ h => List.mem_cons_of_mem _ (List.mem_append_left _ (List.mem_append_left _ (List.mem_append_left _ (List.mem_append_right _ h))))) w h, good_of_word (List.all_eq_true.mp zgw_X3 w h)⟩))
set_option maxRecDepth 100000 in
theorem zg_zd_X9_forge_zd_X3_finish_95_a : GoodIn zw_zd_X9_forge [.methodLink RX9 95 yX3_finish, .instanceMethod yX3_finish, .selects RX3 yX3_finish yX3_finish, .initialized RX3] := goodIn_r _ [115, 116, 117, 12] rfl (by decide +kernel)
set_option maxRecDepth 100000 in
theorem zg_zd_X9_forge_zd_X3_finish_95_c : GoodIn zw_zd_X9_forge [.code yX3_finish cX3_finish 5 (some (.object "TemplateForge$Code"))] := goodIn_r _ [83] rfl (by decide +kernel)
set_option maxRecDepth 100000 in
theorem zg_zd_X9_forge_zd_X3_finish_95_0 : GoodIn zw_zd_X9_forge zw_zd_X3_finish_w0 := goodIn_r _ [71, 3, 84, 62, 63, 64, 85, 86, 87, 88, 89, 90, 91, 92, 93, 94] rfl (by decide +kernel)
set_option maxRecDepth 100000 in
theorem zg_zd_X9_forge_zd_X3_finish_95_1 : GoodIn zw_zd_X9_forge zw_zd_X3_finish_w1 := goodIn_r _ [95, 96, 97, 98, 99, 100, 101, 8, 102, 103, 104, 4, 105, 106, 107, 108] rfl (by decide +kernel)
set_option maxRecDepth 100000 in
theorem zg_zd_X9_forge_zd_X3_finish_95_2 : GoodIn zw_zd_X9_forge zw_zd_X3_finish_w2 := goodIn_r _ [109, 110, 111, 112, 113, 114] rfl (by decide +kernel)
theorem zg_zd_X9_forge_zd_X3_finish_95 : GoodIn zw_zd_X9_forge (wsV RX9 95 RX3 yX3_finish zw_zd_X3_finish) := goodIn_app zg_zd_X9_forge_zd_X3_finish_95_a (goodIn_ca (a := ((zw_zd_X3_finish_w0 ++ (zw_zd_X3_finish_w1 ++ (zw_zd_X3_finish_w2))) ++ wsX30)) (goodIn_ca (a := (zw_zd_X3_finish_w0 ++ (zw_zd_X3_finish_w1 ++ (zw_zd_X3_finish_w2)))) (show GoodIn zw_zd_X9_forge (.code yX3_finish cX3_finish 5 (some (.object "TemplateForge$Code")) :: (zw_zd_X3_finish_w0 ++ (zw_zd_X3_finish_w1 ++ (zw_zd_X3_finish_w2)))) from goodIn_app zg_zd_X9_forge_zd_X3_finish_95_c (goodIn_app zg_zd_X9_forge_zd_X3_finish_95_0 (goodIn_app zg_zd_X9_forge_zd_X3_finish_95_1 (zg_zd_X9_forge_zd_X3_finish_95_2)))) (fun w h => ⟨(fun _ h => List.mem_cons_of_mem _ (List.mem_append_left _ (List.mem_append_left _ (List.mem_append_left _ (List.mem_append_right _ h))))) w h, good_of_word (List.all_eq_true.mp zgw_X3 w h)⟩)) (fun w h => ⟨(fun _ h => List.mem_cons_of_mem _ (List.mem_append_right _ h)) w h, good_of_word (List.all_eq_true.mp zgw_X1 w h)⟩))
set_option maxRecDepth 100000 in
theorem zg_zd_X9_forge_zd_X8_isDead_59_a : GoodIn zw_zd_X9_forge [.methodLink RX9 59 yX8_isDead, .instanceMethod yX8_isDead, .selects RX8 yX8_isDead yX8_isDead, .initialized RX8] := goodIn_r _ [33, 34, 35, 21] rfl (by decide +kernel)
set_option maxRecDepth 100000 in
theorem zg_zd_X9_forge_zd_X8_isDead_59_c : GoodIn zw_zd_X9_forge [.code yX8_isDead cX8_isDead 2 (some .boolean)] := goodIn_r _ [31] rfl (by decide +kernel)
set_option maxRecDepth 100000 in
theorem zg_zd_X9_forge_zd_X8_isDead_59_0 : GoodIn zw_zd_X9_forge zw_zd_X8_isDead_w0 := goodIn_r _ [16, 17, 18, 19, 20, 21, 32] rfl (by decide +kernel)
theorem zg_zd_X9_forge_zd_X8_isDead_59 : GoodIn zw_zd_X9_forge (wsV RX9 59 RX8 yX8_isDead zw_zd_X8_isDead) := goodIn_app zg_zd_X9_forge_zd_X8_isDead_59_a (goodIn_ca (a := (zw_zd_X8_isDead_w0)) (show GoodIn zw_zd_X9_forge (.code yX8_isDead cX8_isDead 2 (some .boolean) :: (zw_zd_X8_isDead_w0)) from goodIn_app zg_zd_X9_forge_zd_X8_isDead_59_c (zg_zd_X9_forge_zd_X8_isDead_59_0)) (fun w h => ⟨(fun _ h => List.mem_cons_of_mem _ (List.mem_append_left _ (List.mem_append_left _ (List.mem_append_right _ h)))) w h, good_of_word (List.all_eq_true.mp zgw_X8 w h)⟩))
set_option maxRecDepth 100000 in
theorem zg_zd_X9_forge_zd_X9_knowArgsAlone_70_a : GoodIn zw_zd_X9_forge [.methodLink RX9 70 yX9_knowArgsAlone, .instanceMethod yX9_knowArgsAlone, .selects RX9 yX9_knowArgsAlone yX9_knowArgsAlone, .initialized RX9] := goodIn_r _ [125, 126, 127, 40] rfl (by decide +kernel)
set_option maxRecDepth 100000 in
theorem zg_zd_X9_forge_zd_X9_knowArgsAlone_70_c : GoodIn zw_zd_X9_forge [.code yX9_knowArgsAlone cX9_knowArgsAlone 3 none] := goodIn_r _ [118] rfl (by decide +kernel)
set_option maxRecDepth 100000 in
theorem zg_zd_X9_forge_zd_X9_knowArgsAlone_70_0 : GoodIn zw_zd_X9_forge zw_zd_X9_knowArgsAlone_w0 := goodIn_r _ [42, 65, 66, 67, 68, 69, 51, 119, 120, 121, 122, 123, 124, 40] rfl (by decide +kernel)
theorem zg_zd_X9_forge_zd_X9_knowArgsAlone_70 : GoodIn zw_zd_X9_forge (wsV RX9 70 RX9 yX9_knowArgsAlone zw_zd_X9_knowArgsAlone) := goodIn_app zg_zd_X9_forge_zd_X9_knowArgsAlone_70_a (goodIn_ca (a := ((zw_zd_X9_knowArgsAlone_w0) ++ wsX90)) (goodIn_ca (a := (zw_zd_X9_knowArgsAlone_w0)) (show GoodIn zw_zd_X9_forge (.code yX9_knowArgsAlone cX9_knowArgsAlone 3 none :: (zw_zd_X9_knowArgsAlone_w0)) from goodIn_app zg_zd_X9_forge_zd_X9_knowArgsAlone_70_c (zg_zd_X9_forge_zd_X9_knowArgsAlone_70_0)) (fun w h => ⟨(fun _ h => List.mem_cons_of_mem _ (List.mem_append_left _ (List.mem_append_left _ (List.mem_append_left _ (List.mem_append_left _ (List.mem_append_right _ h)))))) w h, good_of_word (List.all_eq_true.mp zgw_X9 w h)⟩)) (fun w h => ⟨(fun _ h => List.mem_cons_of_mem _ (List.mem_append_left _ (List.mem_append_right _ h))) w h, good_of_word (List.all_eq_true.mp zgw_X5 w h)⟩))
set_option maxRecDepth 100000 in
theorem zg_zd_X9_forge_zd_X3_begin_74_a : GoodIn zw_zd_X9_forge [.methodLink RX9 74 yX3_begin, .instanceMethod yX3_begin, .selects RX3 yX3_begin yX3_begin, .initialized RX3] := goodIn_r _ [129, 130, 131, 12] rfl (by decide +kernel)
set_option maxRecDepth 100000 in
theorem zg_zd_X9_forge_zd_X3_begin_74_c : GoodIn zw_zd_X9_forge [.code yX3_begin cX3_begin 2 none] := goodIn_r _ [128] rfl (by decide +kernel)
set_option maxRecDepth 100000 in
theorem zg_zd_X9_forge_zd_X3_begin_74_0 : GoodIn zw_zd_X9_forge zw_zd_X3_begin_w0 := goodIn_r _ [4, 3] rfl (by decide +kernel)
theorem zg_zd_X9_forge_zd_X3_begin_74 : GoodIn zw_zd_X9_forge (wsV RX9 74 RX3 yX3_begin zw_zd_X3_begin) := goodIn_app zg_zd_X9_forge_zd_X3_begin_74_a (goodIn_ca (a := (zw_zd_X3_begin_w0)) (show GoodIn zw_zd_X9_forge (.code yX3_begin cX3_begin 2 none :: (zw_zd_X3_begin_w0)) from goodIn_app zg_zd_X9_forge_zd_X3_begin_74_c (zg_zd_X9_forge_zd_X3_begin_74_0)) (fun w h => ⟨(fun _ h => List.mem_cons_of_mem _ (List.mem_append_left _ (List.mem_append_left _ (List.mem_append_left _ (List.mem_append_right _ h))))) w h, good_of_word (List.all_eq_true.mp zgw_X3 w h)⟩))
set_option maxRecDepth 100000 in
theorem zg_zd_X9_forge_zd_X9_wantsTemplate_78_a : GoodIn zw_zd_X9_forge [.methodLink RX9 78 yX9_wantsTemplate, .instanceMethod yX9_wantsTemplate, .selects RX9 yX9_wantsTemplate yX9_wantsTemplate, .initialized RX9] := goodIn_r _ [176, 177, 178, 40] rfl (by decide +kernel)
set_option maxRecDepth 100000 in
theorem zg_zd_X9_forge_zd_X9_wantsTemplate_78_c : GoodIn zw_zd_X9_forge [.code yX9_wantsTemplate cX9_wantsTemplate 6 (some .boolean)] := goodIn_r _ [132] rfl (by decide +kernel)
set_option maxRecDepth 100000 in
theorem zg_zd_X9_forge_zd_X9_wantsTemplate_78_0 : GoodIn zw_zd_X9_forge zw_zd_X9_wantsTemplate_w0 := goodIn_r _ [15, 16, 17, 18, 19, 20, 21, 22, 23, 24, 25, 26, 27, 28, 29, 30] rfl (by decide +kernel)
set_option maxRecDepth 100000 in
theorem zg_zd_X9_forge_zd_X9_wantsTemplate_78_1 : GoodIn zw_zd_X9_forge zw_zd_X9_wantsTemplate_w1 := goodIn_r _ [133, 32, 134, 135, 136, 137, 138, 120, 139, 140, 141, 40, 142, 61, 62, 63] rfl (by decide +kernel)
set_option maxRecDepth 100000 in
theorem zg_zd_X9_forge_zd_X9_wantsTemplate_78_2 : GoodIn zw_zd_X9_forge zw_zd_X9_wantsTemplate_w2 := goodIn_r _ [64, 1, 121, 70, 3, 71, 72, 73, 74, 12, 143, 144, 145, 146, 147, 148] rfl (by decide +kernel)
set_option maxRecDepth 100000 in
theorem zg_zd_X9_forge_zd_X9_wantsTemplate_78_3 : GoodIn zw_zd_X9_forge zw_zd_X9_wantsTemplate_w3 := goodIn_r _ [149, 150, 151, 152, 119, 122, 123, 124, 153, 154, 155, 156, 157, 158, 159, 160] rfl (by decide +kernel)
set_option maxRecDepth 100000 in
theorem zg_zd_X9_forge_zd_X9_wantsTemplate_78_4 : GoodIn zw_zd_X9_forge zw_zd_X9_wantsTemplate_w4 := goodIn_r _ [161, 162, 163, 164, 165, 166, 167, 168, 169, 170, 171, 43, 172, 42, 65, 66] rfl (by decide +kernel)
set_option maxRecDepth 100000 in
theorem zg_zd_X9_forge_zd_X9_wantsTemplate_78_5 : GoodIn zw_zd_X9_forge zw_zd_X9_wantsTemplate_w5 := goodIn_r _ [67, 68, 69, 51, 173, 174, 175] rfl (by decide +kernel)
theorem zg_zd_X9_forge_zd_X9_wantsTemplate_78 : GoodIn zw_zd_X9_forge (wsV RX9 78 RX9 yX9_wantsTemplate zw_zd_X9_wantsTemplate) := goodIn_app zg_zd_X9_forge_zd_X9_wantsTemplate_78_a (goodIn_ca (a := ((((zw_zd_X9_wantsTemplate_w0 ++ (zw_zd_X9_wantsTemplate_w1 ++ (zw_zd_X9_wantsTemplate_w2 ++ (zw_zd_X9_wantsTemplate_w3 ++ (zw_zd_X9_wantsTemplate_w4 ++ (zw_zd_X9_wantsTemplate_w5)))))) ++ wsX80) ++ wsX90) ++ wsX30)) (goodIn_ca (a := (((zw_zd_X9_wantsTemplate_w0 ++ (zw_zd_X9_wantsTemplate_w1 ++ (zw_zd_X9_wantsTemplate_w2 ++ (zw_zd_X9_wantsTemplate_w3 ++ (zw_zd_X9_wantsTemplate_w4 ++ (zw_zd_X9_wantsTemplate_w5)))))) ++ wsX80) ++ wsX90)) (goodIn_ca (a := ((zw_zd_X9_wantsTemplate_w0 ++ (zw_zd_X9_wantsTemplate_w1 ++ (zw_zd_X9_wantsTemplate_w2 ++ (zw_zd_X9_wantsTemplate_w3 ++ (zw_zd_X9_wantsTemplate_w4 ++ (zw_zd_X9_wantsTemplate_w5)))))) ++ wsX80)) (goodIn_ca (a := (zw_zd_X9_wantsTemplate_w0 ++ (zw_zd_X9_wantsTemplate_w1 ++ (zw_zd_X9_wantsTemplate_w2 ++ (zw_zd_X9_wantsTemplate_w3 ++ (zw_zd_X9_wantsTemplate_w4 ++ (zw_zd_X9_wantsTemplate_w5))))))) (show GoodIn zw_zd_X9_forge (.code yX9_wantsTemplate cX9_wantsTemplate 6 (some .boolean) :: (zw_zd_X9_wantsTemplate_w0 ++ (zw_zd_X9_wantsTemplate_w1 ++ (zw_zd_X9_wantsTemplate_w2 ++ (zw_zd_X9_wantsTemplate_w3 ++ (zw_zd_X9_wantsTemplate_w4 ++ (zw_zd_X9_wantsTemplate_w5))))))) from goodIn_app zg_zd_X9_forge_zd_X9_wantsTemplate_78_c (goodIn_app zg_zd_X9_forge_zd_X9_wantsTemplate_78_0 (goodIn_app zg_zd_X9_forge_zd_X9_wantsTemplate_78_1 (goodIn_app zg_zd_X9_forge_zd_X9_wantsTemplate_78_2 (goodIn_app zg_zd_X9_forge_zd_X9_wantsTemplate_78_3 (goodIn_app zg_zd_X9_forge_zd_X9_wantsTemplate_78_4 (zg_zd_X9_forge_zd_X9_wantsTemplate_78_5))))))) (fun w h => ⟨(fun _ h => List.mem_cons_of_mem _ (List.mem_append_left _ (List.mem_append_left _ (List.mem_append_right _ h)))) w h, good_of_word (List.all_eq_true.mp zgw_X8 w h)⟩)) (fun w h => ⟨(fun _ h => List.mem_cons_of_mem _ (List.mem_append_left _ (List.mem_append_left _ (List.mem_append_left _ (List.mem_append_left _ (List.mem_append_right _ h)))))) w h, good_of_word (List.all_eq_true.mp zgw_X9 w h)⟩)) (fun w h => ⟨(fun _ h => List.mem_cons_of_mem _ (List.mem_append_left _ (List.mem_append_left _ (List.mem_append_left _ (List.mem_append_right _ h))))) w h, good_of_word (List.all_eq_true.mp zgw_X3 w h)⟩)) (fun w h => ⟨(fun _ h => List.mem_cons_of_mem _ (List.mem_append_left _ (List.mem_append_right _ h))) w h, good_of_word (List.all_eq_true.mp zgw_X5 w h)⟩))
set_option maxRecDepth 100000 in
theorem zg_zd_X9_forge_zd_X8_opAt_86_a : GoodIn zw_zd_X9_forge [.methodLink RX9 86 yX8_opAt, .instanceMethod yX8_opAt, .selects RX8 yX8_opAt yX8_opAt, .initialized RX8] := goodIn_r _ [23, 24, 25, 21] rfl (by decide +kernel)
set_option maxRecDepth 100000 in
theorem zg_zd_X9_forge_zd_X8_opAt_86_c : GoodIn zw_zd_X9_forge [.code yX8_opAt cX8_opAt 2 (some .int)] := goodIn_r _ [15] rfl (by decide +kernel)
set_option maxRecDepth 100000 in
theorem zg_zd_X9_forge_zd_X8_opAt_86_0 : GoodIn zw_zd_X9_forge zw_zd_X8_opAt_w0 := goodIn_r _ [16, 17, 18, 19, 20, 21, 22] rfl (by decide +kernel)
theorem zg_zd_X9_forge_zd_X8_opAt_86 : GoodIn zw_zd_X9_forge (wsV RX9 86 RX8 yX8_opAt zw_zd_X8_opAt) := goodIn_app zg_zd_X9_forge_zd_X8_opAt_86_a (goodIn_ca (a := (zw_zd_X8_opAt_w0)) (show GoodIn zw_zd_X9_forge (.code yX8_opAt cX8_opAt 2 (some .int) :: (zw_zd_X8_opAt_w0)) from goodIn_app zg_zd_X9_forge_zd_X8_opAt_86_c (zg_zd_X9_forge_zd_X8_opAt_86_0)) (fun w h => ⟨(fun _ h => List.mem_cons_of_mem _ (List.mem_append_left _ (List.mem_append_left _ (List.mem_append_right _ h)))) w h, good_of_word (List.all_eq_true.mp zgw_X8 w h)⟩))
set_option maxRecDepth 100000 in
theorem zg_zd_X9_forge_zd_X3_addTemplate_82_a : GoodIn zw_zd_X9_forge [.methodLink RX9 82 yX3_addTemplate, .instanceMethod yX3_addTemplate, .selects RX3 yX3_addTemplate yX3_addTemplate, .initialized RX3] := goodIn_r _ [188, 189, 190, 12] rfl (by decide +kernel)
set_option maxRecDepth 100000 in
theorem zg_zd_X9_forge_zd_X3_addTemplate_82_c : GoodIn zw_zd_X9_forge [.code yX3_addTemplate cX3_addTemplate 6 none] := goodIn_r _ [179] rfl (by decide +kernel)
set_option maxRecDepth 100000 in
theorem zg_zd_X9_forge_zd_X3_addTemplate_82_0 : GoodIn zw_zd_X9_forge zw_zd_X3_addTemplate_w0 := goodIn_r _ [15, 16, 17, 18, 19, 20, 21, 22, 180, 24, 25, 26, 27, 181, 29, 30] rfl (by decide +kernel)
set_option maxRecDepth 100000 in
theorem zg_zd_X9_forge_zd_X3_addTemplate_82_1 : GoodIn zw_zd_X9_forge zw_zd_X3_addTemplate_w1 := goodIn_r _ [133, 32, 182, 135, 136, 183, 70, 3, 71, 184, 73, 74, 12, 185, 186, 187] rfl (by decide +kernel)
theorem zg_zd_X9_forge_zd_X3_addTemplate_82 : GoodIn zw_zd_X9_forge (wsV RX9 82 RX3 yX3_addTemplate zw_zd_X3_addTemplate) := goodIn_app zg_zd_X9_forge_zd_X3_addTemplate_82_a (goodIn_ca (a := ((zw_zd_X3_addTemplate_w0 ++ (zw_zd_X3_addTemplate_w1)) ++ wsX80)) (goodIn_ca (a := (zw_zd_X3_addTemplate_w0 ++ (zw_zd_X3_addTemplate_w1))) (show GoodIn zw_zd_X9_forge (.code yX3_addTemplate cX3_addTemplate 6 none :: (zw_zd_X3_addTemplate_w0 ++ (zw_zd_X3_addTemplate_w1))) from goodIn_app zg_zd_X9_forge_zd_X3_addTemplate_82_c (goodIn_app zg_zd_X9_forge_zd_X3_addTemplate_82_0 (zg_zd_X9_forge_zd_X3_addTemplate_82_1))) (fun w h => ⟨(fun _ h => List.mem_cons_of_mem _ (List.mem_append_left _ (List.mem_append_left _ (List.mem_append_right _ h)))) w h, good_of_word (List.all_eq_true.mp zgw_X8 w h)⟩)) (fun w h => ⟨(fun _ h => List.mem_cons_of_mem _ (List.mem_append_left _ (List.mem_append_left _ (List.mem_append_left _ (List.mem_append_right _ h))))) w h, good_of_word (List.all_eq_true.mp zgw_X3 w h)⟩))
set_option maxRecDepth 100000 in
theorem zg_zd_X9_forge_zd_X8_goesOnAt_63_a : GoodIn zw_zd_X9_forge [.methodLink RX9 63 yX8_goesOnAt, .instanceMethod yX8_goesOnAt, .selects RX8 yX8_goesOnAt yX8_goesOnAt, .initialized RX8] := goodIn_r _ [194, 195, 196, 21] rfl (by decide +kernel)
set_option maxRecDepth 100000 in
theorem zg_zd_X9_forge_zd_X8_goesOnAt_63_c : GoodIn zw_zd_X9_forge [.code yX8_goesOnAt cX8_goesOnAt 3 (some .boolean)] := goodIn_r _ [191] rfl (by decide +kernel)
set_option maxRecDepth 100000 in
theorem zg_zd_X9_forge_zd_X8_goesOnAt_63_0 : GoodIn zw_zd_X9_forge zw_zd_X8_goesOnAt_w0 := goodIn_r _ [15, 16, 17, 18, 19, 20, 21, 22, 192, 24, 25, 31, 32, 193, 34, 35] rfl (by decide +kernel)
theorem zg_zd_X9_forge_zd_X8_goesOnAt_63 : GoodIn zw_zd_X9_forge (wsV RX9 63 RX8 yX8_goesOnAt zw_zd_X8_goesOnAt) := goodIn_app zg_zd_X9_forge_zd_X8_goesOnAt_63_a (goodIn_ca (a := (zw_zd_X8_goesOnAt_w0)) (show GoodIn zw_zd_X9_forge (.code yX8_goesOnAt cX8_goesOnAt 3 (some .boolean) :: (zw_zd_X8_goesOnAt_w0)) from goodIn_app zg_zd_X9_forge_zd_X8_goesOnAt_63_c (zg_zd_X9_forge_zd_X8_goesOnAt_63_0)) (fun w h => ⟨(fun _ h => List.mem_cons_of_mem _ (List.mem_append_left _ (List.mem_append_left _ (List.mem_append_right _ h)))) w h, good_of_word (List.all_eq_true.mp zgw_X8 w h)⟩))
set_option maxRecDepth 100000 in
theorem zg_zd_X9_forge_zd_X9_lay_66_a : GoodIn zw_zd_X9_forge [.methodLink RX9 66 yX9_lay, .instanceMethod yX9_lay, .selects RX9 yX9_lay yX9_lay, .initialized RX9] := goodIn_r _ [143, 144, 145, 40] rfl (by decide +kernel)
set_option maxRecDepth 100000 in
theorem zg_zd_X9_forge_zd_X9_lay_66_c : GoodIn zw_zd_X9_forge [.code yX9_lay cX9_lay 5 none] := goodIn_r _ [142] rfl (by decide +kernel)
set_option maxRecDepth 100000 in
theorem zg_zd_X9_forge_zd_X9_lay_66_0 : GoodIn zw_zd_X9_forge zw_zd_X9_lay_w0 := goodIn_r _ [61, 62, 63, 64, 120, 1, 121, 70, 3, 71, 72, 73, 74, 12] rfl (by decide +kernel)
theorem zg_zd_X9_forge_zd_X9_lay_66 : GoodIn zw_zd_X9_forge (wsV RX9 66 RX9 yX9_lay zw_zd_X9_lay) := goodIn_app zg_zd_X9_forge_zd_X9_lay_66_a (goodIn_ca (a := ((zw_zd_X9_lay_w0) ++ wsX90)) (goodIn_ca (a := (zw_zd_X9_lay_w0)) (show GoodIn zw_zd_X9_forge (.code yX9_lay cX9_lay 5 none :: (zw_zd_X9_lay_w0)) from goodIn_app zg_zd_X9_forge_zd_X9_lay_66_c (zg_zd_X9_forge_zd_X9_lay_66_0)) (fun w h => ⟨(fun _ h => List.mem_cons_of_mem _ (List.mem_append_left _ (List.mem_append_left _ (List.mem_append_left _ (List.mem_append_left _ (List.mem_append_right _ h)))))) w h, good_of_word (List.all_eq_true.mp zgw_X9 w h)⟩)) (fun w h => ⟨(fun _ h => List.mem_cons_of_mem _ (List.mem_append_left _ (List.mem_append_left _ (List.mem_append_left _ (List.mem_append_right _ h))))) w h, good_of_word (List.all_eq_true.mp zgw_X3 w h)⟩))
set_option maxHeartbeats 16000000 in
set_option maxRecDepth 100000 in
theorem zd_X9_forge (l : Launch) (D : va_G) (cI cZ cP cF : Nat) (q : Nat → Nat → Nat) (S : CST) (i1 : Nat) (sz : Nat) (Post : CST → Nat → Prop) (h : wp_X9_forge S i1 Post) (hcap : cCap S) : MetV l yX9_forge zw_zd_X9_forge ({ frames := 4, cells := rmc S, slots := rms S, locals := 106 }) (va_Pc [.ref (q 15 0), .ref (q 24 i1)] (fun U => U.heap.size = sz ∧ va_P D vwCl (cW cI cZ cP cF q S) U.heap ∧ zF D cI cZ cP cF U ∧ va_D (fun _ => True) (cW cI cZ cP cF q S))) (xQc (fun S' r => Post S' r) (fun (q' : Nat → Nat → Nat) (S' : CST) k n t => va_P D vwCl (cW cI cZ cP cF q' S') t.heap ∧ va_D (va_A (cW cI cZ cP cF q S) sz) (cW cI cZ cP cF q' S') ∧ cA q S q' S' k n) (va_A (cW cI cZ cP cF q S) sz)) (va_A (cW cI cZ cP cF q S) sz) := by
  unfold wp_X9_forge at h
  refine MetV.ofW (cc := cX9_forge) (maxL := 4) (ret := (some (.object "TemplateForge$Code"))) (by decide) rfl ?_
  intro p e s m args below meth c s₁ B hml hv
  obtain ⟨rfl, hsz, hP, hE, hD0⟩ := hv
  have hx := B.exec
  have hb := B.bytes
  have hr := B.returns
  have hts := atoms_spec (ws := zw_zd_X9_forge) B.pre
  have hown : s.vm.findClass RX9 = some m.cls := findClass_of_methodNamed B.named
  have hlocks := B.notSynchronized
  have hK := hE.k
  subst hsz
  have hD := hD0.self (sz := s.heap.size)
  generalize hAe : va_A (cW cI cZ cP cF q S) s.heap.size = A at hD ⊢
  have hA : ∀ q : Nat, s.heap.size ≤ q → A q := fun q h => by rw [← hAe]; exact Or.inr h
  have hl := lv_entry ([.ref (q 15 0), .ref (q 24 i1)]) (n := 4) (Nat.le_of_ble_eq_true rfl)
  rw [lg_entry_eq]
  generalize (lg_sl ([.ref (q 15 0), .ref (q 24 i1)]) ++ List.replicate (4 - (lg_sl ([.ref (q 15 0), .ref (q 24 i1)])).length) Slot.unset).toArray = ls at hl ⊢
  have hl : lv_has ls 4 [(0, .ref (q 15 0)), (1, .ref (q 24 i1))] := hl
  have key : ∀ (H : Heap) (locs : List Loc) (cells slots : Nat), va_P D vwCl (cW cI cZ cP cF q S) H → va_S A s.heap H locs → cA q S q S cells slots → W p l e (headSpec zw_zd_X9_forge ({ frames := 4, cells := rmc S, slots := rms S, locals := 106 })).room s m ([.ref (q 15 0), .ref (q 24 i1)] : List Value).toArray below meth c H locs cells slots (MQV below (xQc (fun S' r => Post S' r) (fun (q' : Nat → Nat → Nat) (S' : CST) k n t => va_P D vwCl (cW cI cZ cP cF q' S') t.heap ∧ va_D A (cW cI cZ cP cF q' S') ∧ cA q S q' S' k n) A) ([.ref (q 15 0), .ref (q 24 i1)] : List Value).toArray s A) (F0 m 0 ls []) := by
    intro H locs cells slots hP hS hN
    refine lv_aload_n hx hb dX9_forge_0 rfl (lv_at hl 0 rfl) ?_
    obtain ⟨p_1, hp_1⟩ := cget_15 cI cZ cP cF q S
    have hi_1 : cin S 15 0 := Or.inl ⟨by decide, rfl⟩
    refine va_get (D := D) (ci := 9) (v := .ref (q 7 0)) (C := RX9) (T := TX9) (N := 5) hx hb hts (fun _ h => List.mem_cons_of_mem _ (List.mem_append_left _ (List.mem_append_left _ (List.mem_append_left _ (List.mem_append_left _ (List.mem_append_right _ h)))))) hown hK hP p_1 hp_1 rfl 0 (by decide) (hts (.fieldLink RX9 25 "TemplateForge$Smith" "draft" "LTemplateForge$Draft;") (List.mem_of_getElem? (i := 1) rfl)) (fun _ h9 => h9) rfl dX9_forge_1 ?_
    obtain ⟨p_2, hp_2⟩ := cget_7 cI cZ cP cF q S
    have hi_2 : cin S 7 0 := Or.inl ⟨by decide, rfl⟩
    have hFc := zm_free hD hS hA
    refine va_callv (va_runV (As := []) (rest := []) ⟨hx, hb, hml, hown, hts⟩ (zd_X3_clear l D cI cZ cP cF q S  H.size _ h) (cwV 0 hts zg_zd_X9_forge_zd_X3_clear_29 rfl rfl rfl (by decide +kernel) ⟨Nat.le_of_ble_eq_true rfl, Nat.le_of_ble_eq_true rfl⟩) ⟨zCW, va_recv hK hP (ci := 3) (q0 := p_2) rfl hp_2, fun U hU hW => ⟨rfl, by rw [hU], by rw [hU]; exact hP, hE.warm hW, hD.weaken (fun _ _ _ _ => trivial)⟩⟩ rfl rfl hl.1 rfl (lv_room (Nat.le_of_ble_eq_true rfl)) dX9_forge_4 (cA_le hN)) hS (fun q _ h => hFc q h) hFc (fun S3 t H locs ht hvm h hB hz1 hk1 hS => ?_)
    obtain ⟨hP, hD1, hN1⟩ := hB
    rw [ht] at hP
    have hD := hD1.weaken (fun k q _ hq => hFc q.1 hq)
    have hN := cA_keep hN hN1
    refine lv_aload_n hx hb dX9_forge_7 rfl (lv_at hl 0 rfl) ?_
    refine lv_aload_n hx hb dX9_forge_8 rfl (lv_at hl 1 rfl) ?_
    obtain ⟨p_4, hp_4⟩ := cget_15 cI cZ cP cF q S3
    have hi_4 : cin S3 15 0 := Or.inl ⟨by decide, rfl⟩
    have hFc := zm_free hD hS hA
    refine va_callv (va_runV (As := [.ref (q 24 i1)]) (rest := []) ⟨hx, hb, hml, hown, hts⟩ (zd_X9_findTargets l D cI cZ cP cF q S3 i1 H.size _ h) (cwV 1 hts zg_zd_X9_forge_zd_X9_findTargets_34 rfl rfl rfl (by decide +kernel) ⟨Nat.le_of_ble_eq_true rfl, Nat.le_of_ble_eq_true rfl⟩) ⟨zCW, va_recv hK hP (ci := 9) (q0 := p_4) rfl hp_4, fun U hU hW => ⟨rfl, by rw [hU], by rw [hU]; exact hP, hE.warm hW, hD.weaken (fun _ _ _ _ => trivial)⟩⟩ rfl rfl hl.1 rfl (lv_room (Nat.le_of_ble_eq_true rfl)) dX9_forge_9 (cA_le hN)) hS (fun q _ h => hFc q h) hFc (fun S5 t H locs ht hvm h hB hz1 hk1 hS => ?_)
    obtain ⟨hP, hD1, hN1⟩ := hB
    rw [ht] at hP
    have hD := hD1.weaken (fun k q _ hq => hFc q.1 hq)
    have hN := cA_keep hN hN1
    refine lv_aload_n hx hb dX9_forge_12 rfl (lv_at hl 0 rfl) ?_
    refine lv_aload_n hx hb dX9_forge_13 rfl (lv_at hl 1 rfl) ?_
    obtain ⟨p_6, hp_6⟩ := cget_15 cI cZ cP cF q S5
    have hi_6 : cin S5 15 0 := Or.inl ⟨by decide, rfl⟩
    have hFc := zm_free hD hS hA
    refine va_callv (va_runV (As := [.ref (q 24 i1)]) (rest := []) ⟨hx, hb, hml, hown, hts⟩ (zd_X9_assume l D cI cZ cP cF q S5 i1 H.size _ h) (cwV 1 hts zg_zd_X9_forge_zd_X9_assume_38 rfl rfl rfl (by decide +kernel) ⟨Nat.le_of_ble_eq_true rfl, Nat.le_of_ble_eq_true rfl⟩) ⟨zCW, va_recv hK hP (ci := 9) (q0 := p_6) rfl hp_6, fun U hU hW => ⟨rfl, by rw [hU], by rw [hU]; exact hP, hE.warm hW, hD.weaken (fun _ _ _ _ => trivial)⟩⟩ rfl rfl hl.1 rfl (lv_room (Nat.le_of_ble_eq_true rfl)) dX9_forge_14 (cA_le hN)) hS (fun q _ h => hFc q h) hFc (fun S7 t H locs ht hvm h hB hz1 hk1 hS => ?_)
    obtain ⟨hP, hD1, hN1⟩ := hB
    rw [ht] at hP
    have hD := hD1.weaken (fun k q _ hq => hFc q.1 hq)
    have hN := cA_keep hN hN1
    refine lv_aload_n hx hb dX9_forge_17 rfl (lv_at hl 0 rfl) ?_
    refine lv_aload_n hx hb dX9_forge_18 rfl (lv_at hl 1 rfl) ?_
    have hi_8 := h.1
    have h := h.2
    obtain ⟨p_8, hp_8⟩ := cget_24 cI cZ cP cF q S7 hi_8
    refine va_get (D := D) (ci := 8) (v := .ref (q 28 i1)) (C := RX8) (T := TX8) (N := 10) hx hb hts (fun _ h => List.mem_cons_of_mem _ (List.mem_append_left _ (List.mem_append_left _ (List.mem_append_right _ h)))) hown hK hP p_8 hp_8 rfl 3 (by decide) (hts (.fieldLink RX9 41 "TemplateForge$Program" "heat" "LTemplateForge$Heat;") (List.mem_of_getElem? (i := 43) rfl)) (fun _ h9 => h9) rfl dX9_forge_19 ?_
    refine lv_iconst (v := 0) hx hb dX9_forge_22 (by decide) ?_
    refine lv_iconst (v := 0) hx hb dX9_forge_23 (by decide) ?_
    obtain ⟨p_9, hp_9⟩ := cget_15 cI cZ cP cF q S7
    have hi_9 : cin S7 15 0 := Or.inl ⟨by decide, rfl⟩
    have hFc := zm_free hD hS hA
    refine va_callv (va_runV (As := [.ref (q 28 i1), .int 0, .int 0]) (rest := []) ⟨hx, hb, hml, hown, hts⟩ (zd_X9_addGuards l D cI cZ cP cF q S7 i1 0 0 H.size _ h) (cwV 3 hts zg_zd_X9_forge_zd_X9_addGuards_47 rfl rfl rfl (by decide +kernel) ⟨Nat.le_of_ble_eq_true rfl, Nat.le_of_ble_eq_true rfl⟩) ⟨zCW, va_recv hK hP (ci := 9) (q0 := p_9) rfl hp_9, fun U hU hW => ⟨rfl, by rw [hU], by rw [hU]; exact hP, hE.warm hW, hD.weaken (fun _ _ _ _ => trivial)⟩⟩ rfl rfl hl.1 rfl (lv_room (Nat.le_of_ble_eq_true rfl)) dX9_forge_24 (cA_le hN)) hS (fun q _ h => hFc q h) hFc (fun S10 t H locs ht hvm h hB hz1 hk1 hS => ?_)
    obtain ⟨hP, hD1, hN1⟩ := hB
    rw [ht] at hP
    have hD := hD1.weaken (fun k q _ hq => hFc q.1 hq)
    have hN := cA_keep hN hN1
    refine lv_aload_n hx hb dX9_forge_27 rfl (lv_at hl 0 rfl) ?_
    obtain ⟨p_11, hp_11⟩ := cget_15 cI cZ cP cF q S10
    have hi_11 : cin S10 15 0 := Or.inl ⟨by decide, rfl⟩
    refine va_get (D := D) (ci := 9) (v := .ref (q 7 0)) (C := RX9) (T := TX9) (N := 5) hx hb hts (fun _ h => List.mem_cons_of_mem _ (List.mem_append_left _ (List.mem_append_left _ (List.mem_append_left _ (List.mem_append_left _ (List.mem_append_right _ h)))))) hown hK hP p_11 hp_11 rfl 0 (by decide) (hts (.fieldLink RX9 25 "TemplateForge$Smith" "draft" "LTemplateForge$Draft;") (List.mem_of_getElem? (i := 1) rfl)) (fun _ h9 => h9) rfl dX9_forge_28 ?_
    obtain ⟨p_12, hp_12⟩ := cget_7 cI cZ cP cF q S10
    have hi_12 : cin S10 7 0 := Or.inl ⟨by decide, rfl⟩
    refine vp_callSi (va_Run.run (va_runV (As := []) (rest := []) ⟨hx, hb, hml, hown, hts⟩ (zd_X3_parts l D cI cZ cP cF q S10   _ h) (cwV 0 hts zg_zd_X9_forge_zd_X3_parts_51 rfl rfl rfl (by decide +kernel) ⟨Nat.le_of_ble_eq_true rfl, Nat.le_of_ble_eq_true rfl⟩) ⟨zCR, va_recv hK hP (ci := 3) (q0 := p_12) rfl hp_12, fun U hU hW => ⟨rfl, by rw [hU]; exact hP, hE.warm hW⟩⟩ rfl rfl hl.1 rfl (lv_room (Nat.le_of_ble_eq_true rfl)) dX9_forge_31 (cA_le hN))) (fun r13 h => ?_)
    refine lv_istore_n (lv' := [(2, .int r13), (0, .ref (q 15 0)), (1, .ref (q 24 i1))]) hx hb dX9_forge_34 rfl hl (by decide) rfl (fun ls hl => ?_)
    refine lv_iconst (v := 0) hx hb dX9_forge_35 (by decide) ?_
    refine lv_istore_n (lv' := [(3, .int 0), (2, .int r13), (0, .ref (q 15 0)), (1, .ref (q 24 i1))]) hx hb dX9_forge_36 rfl hl (by decide) rfl (fun ls hl => ?_)
    have EX_37_154 : ∀ (q_154 : Nat → Nat → Nat) (S_154 : CST) (y154_1 : Nat) (x154_2 : Int32) (H : Heap) (locs : List Loc) (cells slots : Nat) (ls : Array Slot), (cin S_154 24 y154_1 ∧ (cin S_154 28 y154_1 ∧ (cin S_154 24 y154_1 ∧ (cin S_154 24 y154_1 ∧ (wp_X3_finish S_154 ((cv S_154 283 y154_1 0) + 1) x154_2 (cv S_154 247 y154_1 0) (fun S21 r21 => Post S21 r21)))))) → va_P D vwCl (cW cI cZ cP cF q_154 S_154) H → va_D A (cW cI cZ cP cF q_154 S_154) → va_S A s.heap H locs → cA q S q_154 S_154 cells slots → lv_has ls 4 [(0, .ref (q_154 15 0)), (1, .ref (q_154 24 y154_1)), (2, .int x154_2)] → W p l e (headSpec zw_zd_X9_forge ({ frames := 4, cells := rmc S, slots := rms S, locals := 106 })).room s m ([.ref (q 15 0), .ref (q 24 i1)] : List Value).toArray below meth c H locs cells slots (MQV below (xQc (fun S' r => Post S' r) (fun (q' : Nat → Nat → Nat) (S' : CST) k n t => va_P D vwCl (cW cI cZ cP cF q' S') t.heap ∧ va_D A (cW cI cZ cP cF q' S') ∧ cA q S q' S' k n) A) ([.ref (q 15 0), .ref (q 24 i1)] : List Value).toArray s A) (F0 m 154 ls []) := by
      intro q_154 S_154 y154_1 x154_2 H locs cells slots ls h hP hD hS hN hl
      refine lv_aload_n hx hb dX9_forge_154 rfl (lv_at hl 0 rfl) ?_
      obtain ⟨p_14, hp_14⟩ := cget_15 cI cZ cP cF q_154 S_154
      have hi_14 : cin S_154 15 0 := Or.inl ⟨by decide, rfl⟩
      refine va_get (D := D) (ci := 9) (v := .ref (q_154 7 0)) (C := RX9) (T := TX9) (N := 5) hx hb hts (fun _ h => List.mem_cons_of_mem _ (List.mem_append_left _ (List.mem_append_left _ (List.mem_append_left _ (List.mem_append_left _ (List.mem_append_right _ h)))))) hown hK hP p_14 hp_14 rfl 0 (by decide) (hts (.fieldLink RX9 25 "TemplateForge$Smith" "draft" "LTemplateForge$Draft;") (List.mem_of_getElem? (i := 1) rfl)) (fun _ h9 => h9) rfl dX9_forge_155 ?_
      refine lv_aload_n hx hb dX9_forge_158 rfl (lv_at hl 1 rfl) ?_
      have hi_15 := h.1
      have h := h.2
      obtain ⟨p_15, hp_15⟩ := cget_24 cI cZ cP cF q_154 S_154 hi_15
      refine va_get (D := D) (ci := 8) (v := .ref (q_154 28 y154_1)) (C := RX8) (T := TX8) (N := 10) hx hb hts (fun _ h => List.mem_cons_of_mem _ (List.mem_append_left _ (List.mem_append_left _ (List.mem_append_right _ h)))) hown hK hP p_15 hp_15 rfl 3 (by decide) (hts (.fieldLink RX9 41 "TemplateForge$Program" "heat" "LTemplateForge$Heat;") (List.mem_of_getElem? (i := 43) rfl)) (fun _ h9 => h9) rfl dX9_forge_159 ?_
      have hi_16 := h.1
      have h := h.2
      obtain ⟨p_16, hp_16⟩ := cget_28 cI cZ cP cF q_154 S_154 hi_16
      refine va_get (D := D) (ci := 5) (v := .int (cv S_154 283 y154_1 0)) (C := RX5) (T := TX5) (N := 9) hx hb hts (fun _ h => List.mem_cons_of_mem _ (List.mem_append_left _ (List.mem_append_right _ h))) hown hK hP p_16 hp_16 rfl 3 (by decide) (hts (.fieldLink RX9 90 "TemplateForge$Heat" "made" "I") (List.mem_of_getElem? (i := 82) rfl)) (fun _ h9 => h9) rfl dX9_forge_162 ?_
      refine lv_iconst (v := 1) hx hb dX9_forge_165 (by decide) ?_
      refine lv_iadd hx hb dX9_forge_166 ?_
      refine lv_iload_n hx hb dX9_forge_167 rfl (lv_at hl 2 rfl) ?_
      refine lv_aload_n hx hb dX9_forge_168 rfl (lv_at hl 1 rfl) ?_
      have hi_17 := h.1
      have h := h.2
      obtain ⟨p_17, hp_17⟩ := cget_24 cI cZ cP cF q_154 S_154 hi_17
      refine va_get (D := D) (ci := 8) (v := .int (cv S_154 247 y154_1 0)) (C := RX8) (T := TX8) (N := 10) hx hb hts (fun _ h => List.mem_cons_of_mem _ (List.mem_append_left _ (List.mem_append_left _ (List.mem_append_right _ h)))) hown hK hP p_17 hp_17 rfl 7 (by decide) (hts (.fieldLink RX9 55 "TemplateForge$Program" "length" "I") (List.mem_of_getElem? (i := 14) rfl)) (fun _ h9 => h9) rfl dX9_forge_169 ?_
      obtain ⟨p_18, hp_18⟩ := cget_7 cI cZ cP cF q_154 S_154
      have hi_18 : cin S_154 7 0 := Or.inl ⟨by decide, rfl⟩
      have hc_20 := h.1
      have h := h.2
      have hFc := zm_free hD hS hA
      refine xc_c (z_runV (As := [.int ((cv S_154 283 y154_1 0) + 1), .int x154_2, .int (cv S_154 247 y154_1 0)]) (rest := []) ⟨hx, hb, hml, hown, hts⟩ (zd_X3_finish l D cI cZ cP cF q_154 S_154 ((cv S_154 283 y154_1 0) + 1) x154_2 (cv S_154 247 y154_1 0) H.size _ h (cA_cap hN)) (cwV 3 hts zg_zd_X9_forge_zd_X3_finish_95 rfl rfl rfl (by decide +kernel) ⟨Nat.le_of_ble_eq_true rfl, Nat.le_of_ble_eq_true rfl⟩) ⟨zCW, va_recv hK hP (ci := 3) (q0 := p_18) rfl hp_18, fun U hU hW => ⟨rfl, by rw [hU], by rw [hU]; exact hP, hE.warm hW, hD.weaken (fun _ _ _ _ => trivial)⟩⟩ rfl rfl hl.1 rfl (lv_room (Nat.le_of_ble_eq_true rfl)) dX9_forge_172 (cA_room hN)) hS (fun q _ h => hFc q h) hFc (fun r21 q21 S21 k n t H locs ht hvm h hB hz1 hk1 hS => ?_)
      obtain ⟨hP, hD1, hN1⟩ := hB
      rw [ht] at hP
      have hD := hD1.weaken (fun k q _ hq => hFc q.1 hq)
      have e_19 : q21 15 0 = q_154 15 0 := hN1.1 15 0 (Or.inl ⟨by decide, rfl⟩)
      have e_20 : q21 24 y154_1 = q_154 24 y154_1 := hN1.1 24 y154_1 hc_20
      have hN := cA_step hN hN1.1 hN1.2
      have hl : lv_has ls 4 [(0, .ref (q21 15 0)), (1, .ref (q21 24 y154_1)), (2, .int x154_2)] := by simp only [e_19, e_20]; exact hl
      exact zV_c hx hb hr (fun t ht hW => ⟨⟨r21, q21, S21, rfl, h, by rw [ht]; exact hP, hD, hN⟩, hS.F ht⟩) hS.2.2 dX9_forge_175 hlocks
    have LP_37 : ∀ (n_37 : Nat), ∀ (q_37 : Nat → Nat → Nat) (S_37 : CST) (y37_1 : Nat) (x37_2 : Int32) (x37_3 : Int32) (H : Heap) (locs : List Loc) (cells slots : Nat) (ls : Array Slot), wl_X9_forge_37 (fun S_154 y154_1 x154_2 => cin S_154 24 y154_1 ∧ (cin S_154 28 y154_1 ∧ (cin S_154 24 y154_1 ∧ (cin S_154 24 y154_1 ∧ (wp_X3_finish S_154 ((cv S_154 283 y154_1 0) + 1) x154_2 (cv S_154 247 y154_1 0) (fun S21 r21 => Post S21 r21)))))) Post n_37 S_37 y37_1 x37_2 x37_3 → va_P D vwCl (cW cI cZ cP cF q_37 S_37) H → va_D A (cW cI cZ cP cF q_37 S_37) → va_S A s.heap H locs → cA q S q_37 S_37 cells slots → lv_has ls 4 [(0, .ref (q_37 15 0)), (1, .ref (q_37 24 y37_1)), (2, .int x37_2), (3, .int x37_3)] → W p l e (headSpec zw_zd_X9_forge ({ frames := 4, cells := rmc S, slots := rms S, locals := 106 })).room s m ([.ref (q 15 0), .ref (q 24 i1)] : List Value).toArray below meth c H locs cells slots (MQV below (xQc (fun S' r => Post S' r) (fun (q' : Nat → Nat → Nat) (S' : CST) k n t => va_P D vwCl (cW cI cZ cP cF q' S') t.heap ∧ va_D A (cW cI cZ cP cF q' S') ∧ cA q S q' S' k n) A) ([.ref (q 15 0), .ref (q 24 i1)] : List Value).toArray s A) (F0 m 37 ls []) := by
      intro n_37
      induction n_37 with
      | zero =>
        intro q_37 S_37 y37_1 x37_2 x37_3 H locs cells slots ls h hP hD hS hN hl
        exact False.elim h
      | succ n_37 ih_37 =>
        intro q_37 S_37 y37_1 x37_2 x37_3 H locs cells slots ls h hP hD hS hN hl
        unfold wl_X9_forge_37 at h
        refine lv_iload_n hx hb dX9_forge_37 rfl (lv_at hl 3 rfl) ?_
        refine lv_aload_n hx hb dX9_forge_38 rfl (lv_at hl 1 rfl) ?_
        have hi_22 := h.1
        have h := h.2
        obtain ⟨p_22, hp_22⟩ := cget_24 cI cZ cP cF q_37 S_37 hi_22
        refine va_get (D := D) (ci := 8) (v := .int (cv S_37 247 y37_1 0)) (C := RX8) (T := TX8) (N := 10) hx hb hts (fun _ h => List.mem_cons_of_mem _ (List.mem_append_left _ (List.mem_append_left _ (List.mem_append_right _ h)))) hown hK hP p_22 hp_22 rfl 7 (by decide) (hts (.fieldLink RX9 55 "TemplateForge$Program" "length" "I") (List.mem_of_getElem? (i := 14) rfl)) (fun _ h9 => h9) rfl dX9_forge_39 ?_
        refine lv_icmp_ge (tgt := 154) hx hb dX9_forge_42 (by decide) (fun c_23 => ?_) (fun c_23 => ?_)
        · have h := h.1 c_23
          exact EX_37_154  q_37 S_37 y37_1 x37_2 H locs _ _ _ h hP hD hS hN (lv_sub hl [0, 1, 2] rfl)
        · have h := h.2 c_23
          refine lv_aload_n hx hb dX9_forge_45 rfl (lv_at hl 1 rfl) ?_
          refine lv_iload_n hx hb dX9_forge_46 rfl (lv_at hl 3 rfl) ?_
          have hi_24 := h.1
          have h := h.2
          obtain ⟨p_24, hp_24⟩ := cget_24 cI cZ cP cF q_37 S_37 hi_24
          refine vp_callSi (va_Run.run (va_runV (As := [.int x37_3]) (rest := []) ⟨hx, hb, hml, hown, hts⟩ (zd_X8_isDead l D cI cZ cP cF q_37 S_37 y37_1 x37_3  _ h) (cwV 1 hts zg_zd_X9_forge_zd_X8_isDead_59 rfl rfl rfl (by decide +kernel) ⟨Nat.le_of_ble_eq_true rfl, Nat.le_of_ble_eq_true rfl⟩) ⟨zCR, va_recv hK hP (ci := 8) (q0 := p_24) rfl hp_24, fun U hU hW => ⟨rfl, by rw [hU]; exact hP, hE.warm hW⟩⟩ rfl rfl hl.1 rfl (lv_room (Nat.le_of_ble_eq_true rfl)) dX9_forge_47 (cA_le hN))) (fun r25 h => ?_)
          refine lv_if_eq (tgt := 56) hx hb dX9_forge_50 (by decide) (fun c_26 => ?_) (fun c_26 => ?_)
          · have h := h.1 c_26
            refine lv_iload_n hx hb dX9_forge_56 rfl (lv_at hl 3 rfl) ?_
            refine lv_if_eq (tgt := 69) hx hb dX9_forge_57 (by decide) (fun c_27 => ?_) (fun c_27 => ?_)
            · have h := h.1 c_27
              refine lv_iload_n hx hb dX9_forge_69 rfl (lv_at hl 3 rfl) ?_
              refine lv_if_le (tgt := 94) hx hb dX9_forge_70 (by decide) (fun c_28 => ?_) (fun c_28 => ?_)
              · have h := h.1 c_28
                refine lv_aload_n hx hb dX9_forge_94 rfl (lv_at hl 0 rfl) ?_
                refine lv_aload_n hx hb dX9_forge_95 rfl (lv_at hl 1 rfl) ?_
                have hi_29 := h.1
                have h := h.2
                obtain ⟨p_29, hp_29⟩ := cget_24 cI cZ cP cF q_37 S_37 hi_29
                refine va_get (D := D) (ci := 8) (v := .ref (q_37 28 y37_1)) (C := RX8) (T := TX8) (N := 10) hx hb hts (fun _ h => List.mem_cons_of_mem _ (List.mem_append_left _ (List.mem_append_left _ (List.mem_append_right _ h)))) hown hK hP p_29 hp_29 rfl 3 (by decide) (hts (.fieldLink RX9 41 "TemplateForge$Program" "heat" "LTemplateForge$Heat;") (List.mem_of_getElem? (i := 43) rfl)) (fun _ h9 => h9) rfl dX9_forge_96 ?_
                obtain ⟨p_30, hp_30⟩ := cget_15 cI cZ cP cF q_37 S_37
                have hi_30 : cin S_37 15 0 := Or.inl ⟨by decide, rfl⟩
                have hFc := zm_free hD hS hA
                refine va_callv (va_runV (As := [.ref (q_37 28 y37_1)]) (rest := []) ⟨hx, hb, hml, hown, hts⟩ (zd_X9_knowArgsAlone l D cI cZ cP cF q_37 S_37 y37_1 H.size _ h) (cwV 1 hts zg_zd_X9_forge_zd_X9_knowArgsAlone_70 rfl rfl rfl (by decide +kernel) ⟨Nat.le_of_ble_eq_true rfl, Nat.le_of_ble_eq_true rfl⟩) ⟨zCW, va_recv hK hP (ci := 9) (q0 := p_30) rfl hp_30, fun U hU hW => ⟨rfl, by rw [hU], by rw [hU]; exact hP, hE.warm hW, hD.weaken (fun _ _ _ _ => trivial)⟩⟩ rfl rfl hl.1 rfl (lv_room (Nat.le_of_ble_eq_true rfl)) dX9_forge_99 (cA_le hN)) hS (fun q _ h => hFc q h) hFc (fun S31 t H locs ht hvm h hB hz1 hk1 hS => ?_)
                obtain ⟨hP, hD1, hN1⟩ := hB
                rw [ht] at hP
                have hD := hD1.weaken (fun k q _ hq => hFc q.1 hq)
                have hN := cA_keep hN hN1
                refine lv_aload_n hx hb dX9_forge_102 rfl (lv_at hl 0 rfl) ?_
                obtain ⟨p_32, hp_32⟩ := cget_15 cI cZ cP cF q_37 S31
                have hi_32 : cin S31 15 0 := Or.inl ⟨by decide, rfl⟩
                refine va_get (D := D) (ci := 9) (v := .ref (q_37 7 0)) (C := RX9) (T := TX9) (N := 5) hx hb hts (fun _ h => List.mem_cons_of_mem _ (List.mem_append_left _ (List.mem_append_left _ (List.mem_append_left _ (List.mem_append_left _ (List.mem_append_right _ h)))))) hown hK hP p_32 hp_32 rfl 0 (by decide) (hts (.fieldLink RX9 25 "TemplateForge$Smith" "draft" "LTemplateForge$Draft;") (List.mem_of_getElem? (i := 1) rfl)) (fun _ h9 => h9) rfl dX9_forge_103 ?_
                refine lv_iload_n hx hb dX9_forge_106 rfl (lv_at hl 3 rfl) ?_
                obtain ⟨p_33, hp_33⟩ := cget_7 cI cZ cP cF q_37 S31
                have hi_33 : cin S31 7 0 := Or.inl ⟨by decide, rfl⟩
                have hFc := zm_free hD hS hA
                refine va_callv (va_runV (As := [.int x37_3]) (rest := []) ⟨hx, hb, hml, hown, hts⟩ (zd_X3_begin l D cI cZ cP cF q_37 S31 x37_3 H.size _ h) (cwV 1 hts zg_zd_X9_forge_zd_X3_begin_74 rfl rfl rfl (by decide +kernel) ⟨Nat.le_of_ble_eq_true rfl, Nat.le_of_ble_eq_true rfl⟩) ⟨zCW, va_recv hK hP (ci := 3) (q0 := p_33) rfl hp_33, fun U hU hW => ⟨rfl, by rw [hU], by rw [hU]; exact hP, hE.warm hW, hD.weaken (fun _ _ _ _ => trivial)⟩⟩ rfl rfl hl.1 rfl (lv_room (Nat.le_of_ble_eq_true rfl)) dX9_forge_107 (cA_le hN)) hS (fun q _ h => hFc q h) hFc (fun S34 t H locs ht hvm h hB hz1 hk1 hS => ?_)
                obtain ⟨hP, hD1, hN1⟩ := hB
                rw [ht] at hP
                have hD := hD1.weaken (fun k q _ hq => hFc q.1 hq)
                have hN := cA_keep hN hN1
                refine lv_aload_n hx hb dX9_forge_110 rfl (lv_at hl 0 rfl) ?_
                refine lv_aload_n hx hb dX9_forge_111 rfl (lv_at hl 1 rfl) ?_
                refine lv_iload_n hx hb dX9_forge_112 rfl (lv_at hl 3 rfl) ?_
                obtain ⟨p_35, hp_35⟩ := cget_15 cI cZ cP cF q_37 S34
                have hi_35 : cin S34 15 0 := Or.inl ⟨by decide, rfl⟩
                have hFc := zm_free hD hS hA
                refine va_calli (va_runV (As := [.ref (q_37 24 y37_1), .int x37_3]) (rest := []) ⟨hx, hb, hml, hown, hts⟩ (zd_X9_wantsTemplate l D cI cZ cP cF q_37 S34 y37_1 x37_3 H.size _ h) (cwV 2 hts zg_zd_X9_forge_zd_X9_wantsTemplate_78 rfl rfl rfl (by decide +kernel) ⟨Nat.le_of_ble_eq_true rfl, Nat.le_of_ble_eq_true rfl⟩) ⟨zCW, va_recv hK hP (ci := 9) (q0 := p_35) rfl hp_35, fun U hU hW => ⟨rfl, by rw [hU], by rw [hU]; exact hP, hE.warm hW, hD.weaken (fun _ _ _ _ => trivial)⟩⟩ rfl rfl hl.1 rfl (lv_room (Nat.le_of_ble_eq_true rfl)) dX9_forge_113 (cA_le hN)) hS (fun q _ h => hFc q h) hFc (fun r36 S36 t H locs ht hvm h hB hz1 hk1 hS => ?_)
                obtain ⟨hP, hD1, hN1⟩ := hB
                rw [ht] at hP
                have hD := hD1.weaken (fun k q _ hq => hFc q.1 hq)
                have hN := cA_keep hN hN1
                refine lv_if_eq (tgt := 128) hx hb dX9_forge_116 (by decide) (fun c_37 => ?_) (fun c_37 => ?_)
                · have h := h.1 c_37
                  refine lv_aload_n hx hb dX9_forge_128 rfl (lv_at hl 1 rfl) ?_
                  refine lv_iload_n hx hb dX9_forge_129 rfl (lv_at hl 3 rfl) ?_
                  have hi_38 := h.1
                  have h := h.2
                  obtain ⟨p_38, hp_38⟩ := cget_24 cI cZ cP cF q_37 S36 hi_38
                  refine vp_callSi (va_Run.run (va_runV (As := [.int x37_3]) (rest := []) ⟨hx, hb, hml, hown, hts⟩ (zd_X8_opAt l D cI cZ cP cF q_37 S36 y37_1 x37_3  _ h) (cwV 1 hts zg_zd_X9_forge_zd_X8_opAt_86 rfl rfl rfl (by decide +kernel) ⟨Nat.le_of_ble_eq_true rfl, Nat.le_of_ble_eq_true rfl⟩) ⟨zCR, va_recv hK hP (ci := 8) (q0 := p_38) rfl hp_38, fun U hU hW => ⟨rfl, by rw [hU]; exact hP, hE.warm hW⟩⟩ rfl rfl hl.1 rfl (lv_room (Nat.le_of_ble_eq_true rfl)) dX9_forge_130 (cA_le hN))) (fun r39 h => ?_)
                  refine lv_bipush (v := 11) hx hb dX9_forge_133 (by decide) ?_
                  refine lv_icmp_ne (tgt := 148) hx hb dX9_forge_135 (by decide) (fun c_40 => ?_) (fun c_40 => ?_)
                  · have h := h.1 c_40
                    refine lv_iinc (v := x37_3 + 1) (lv' := [(3, .int (x37_3 + 1)), (0, .ref (q_37 15 0)), (1, .ref (q_37 24 y37_1)), (2, .int x37_2)]) hx hb dX9_forge_148 hl (k := 3) rfl rfl (by decide) rfl (fun ls hl => ?_)
                    refine lv_goto (tgt := 37) hx hb dX9_forge_151 (by decide) ?_
                    exact ih_37  q_37 S36 y37_1 x37_2 (x37_3 + 1) H locs _ _ _ h hP hD hS hN (lv_sub hl [1, 2, 3, 0] rfl)
                  · have h := h.2 c_40
                    refine lv_aload_n hx hb dX9_forge_138 rfl (lv_at hl 0 rfl) ?_
                    refine lv_aload_n hx hb dX9_forge_139 rfl (lv_at hl 1 rfl) ?_
                    have hi_41 := h.1
                    have h := h.2
                    obtain ⟨p_41, hp_41⟩ := cget_24 cI cZ cP cF q_37 S36 hi_41
                    refine va_get (D := D) (ci := 8) (v := .ref (q_37 28 y37_1)) (C := RX8) (T := TX8) (N := 10) hx hb hts (fun _ h => List.mem_cons_of_mem _ (List.mem_append_left _ (List.mem_append_left _ (List.mem_append_right _ h)))) hown hK hP p_41 hp_41 rfl 3 (by decide) (hts (.fieldLink RX9 41 "TemplateForge$Program" "heat" "LTemplateForge$Heat;") (List.mem_of_getElem? (i := 43) rfl)) (fun _ h9 => h9) rfl dX9_forge_140 ?_
                    refine lv_iconst (v := 3) hx hb dX9_forge_143 (by decide) ?_
                    refine lv_iload_n hx hb dX9_forge_144 rfl (lv_at hl 3 rfl) ?_
                    obtain ⟨p_42, hp_42⟩ := cget_15 cI cZ cP cF q_37 S36
                    have hi_42 : cin S36 15 0 := Or.inl ⟨by decide, rfl⟩
                    have hFc := zm_free hD hS hA
                    refine va_callv (va_runV (As := [.ref (q_37 28 y37_1), .int 3, .int x37_3]) (rest := []) ⟨hx, hb, hml, hown, hts⟩ (zd_X9_addGuards l D cI cZ cP cF q_37 S36 y37_1 3 x37_3 H.size _ h) (cwV 3 hts zg_zd_X9_forge_zd_X9_addGuards_47 rfl rfl rfl (by decide +kernel) ⟨Nat.le_of_ble_eq_true rfl, Nat.le_of_ble_eq_true rfl⟩) ⟨zCW, va_recv hK hP (ci := 9) (q0 := p_42) rfl hp_42, fun U hU hW => ⟨rfl, by rw [hU], by rw [hU]; exact hP, hE.warm hW, hD.weaken (fun _ _ _ _ => trivial)⟩⟩ rfl rfl hl.1 rfl (lv_room (Nat.le_of_ble_eq_true rfl)) dX9_forge_145 (cA_le hN)) hS (fun q _ h => hFc q h) hFc (fun S43 t H locs ht hvm h hB hz1 hk1 hS => ?_)
                    obtain ⟨hP, hD1, hN1⟩ := hB
                    rw [ht] at hP
                    have hD := hD1.weaken (fun k q _ hq => hFc q.1 hq)
                    have hN := cA_keep hN hN1
                    refine lv_iinc (v := x37_3 + 1) (lv' := [(3, .int (x37_3 + 1)), (0, .ref (q_37 15 0)), (1, .ref (q_37 24 y37_1)), (2, .int x37_2)]) hx hb dX9_forge_148 hl (k := 3) rfl rfl (by decide) rfl (fun ls hl => ?_)
                    refine lv_goto (tgt := 37) hx hb dX9_forge_151 (by decide) ?_
                    exact ih_37  q_37 S43 y37_1 x37_2 (x37_3 + 1) H locs _ _ _ h hP hD hS hN (lv_sub hl [1, 2, 3, 0] rfl)
                · have h := h.2 c_37
                  refine lv_aload_n hx hb dX9_forge_119 rfl (lv_at hl 0 rfl) ?_
                  obtain ⟨p_44, hp_44⟩ := cget_15 cI cZ cP cF q_37 S36
                  have hi_44 : cin S36 15 0 := Or.inl ⟨by decide, rfl⟩
                  refine va_get (D := D) (ci := 9) (v := .ref (q_37 7 0)) (C := RX9) (T := TX9) (N := 5) hx hb hts (fun _ h => List.mem_cons_of_mem _ (List.mem_append_left _ (List.mem_append_left _ (List.mem_append_left _ (List.mem_append_left _ (List.mem_append_right _ h)))))) hown hK hP p_44 hp_44 rfl 0 (by decide) (hts (.fieldLink RX9 25 "TemplateForge$Smith" "draft" "LTemplateForge$Draft;") (List.mem_of_getElem? (i := 1) rfl)) (fun _ h9 => h9) rfl dX9_forge_120 ?_
                  refine lv_aload_n hx hb dX9_forge_123 rfl (lv_at hl 1 rfl) ?_
                  refine lv_iload_n hx hb dX9_forge_124 rfl (lv_at hl 3 rfl) ?_
                  obtain ⟨p_45, hp_45⟩ := cget_7 cI cZ cP cF q_37 S36
                  have hi_45 : cin S36 7 0 := Or.inl ⟨by decide, rfl⟩
                  have hFc := zm_free hD hS hA
                  refine va_callv (va_runV (As := [.ref (q_37 24 y37_1), .int x37_3]) (rest := []) ⟨hx, hb, hml, hown, hts⟩ (zd_X3_addTemplate l D cI cZ cP cF q_37 S36 y37_1 x37_3 H.size _ h) (cwV 2 hts zg_zd_X9_forge_zd_X3_addTemplate_82 rfl rfl rfl (by decide +kernel) ⟨Nat.le_of_ble_eq_true rfl, Nat.le_of_ble_eq_true rfl⟩) ⟨zCW, va_recv hK hP (ci := 3) (q0 := p_45) rfl hp_45, fun U hU hW => ⟨rfl, by rw [hU], by rw [hU]; exact hP, hE.warm hW, hD.weaken (fun _ _ _ _ => trivial)⟩⟩ rfl rfl hl.1 rfl (lv_room (Nat.le_of_ble_eq_true rfl)) dX9_forge_125 (cA_le hN)) hS (fun q _ h => hFc q h) hFc (fun S46 t H locs ht hvm h hB hz1 hk1 hS => ?_)
                  obtain ⟨hP, hD1, hN1⟩ := hB
                  rw [ht] at hP
                  have hD := hD1.weaken (fun k q _ hq => hFc q.1 hq)
                  have hN := cA_keep hN hN1
                  refine lv_aload_n hx hb dX9_forge_128 rfl (lv_at hl 1 rfl) ?_
                  refine lv_iload_n hx hb dX9_forge_129 rfl (lv_at hl 3 rfl) ?_
                  have hi_47 := h.1
                  have h := h.2
                  obtain ⟨p_47, hp_47⟩ := cget_24 cI cZ cP cF q_37 S46 hi_47
                  refine vp_callSi (va_Run.run (va_runV (As := [.int x37_3]) (rest := []) ⟨hx, hb, hml, hown, hts⟩ (zd_X8_opAt l D cI cZ cP cF q_37 S46 y37_1 x37_3  _ h) (cwV 1 hts zg_zd_X9_forge_zd_X8_opAt_86 rfl rfl rfl (by decide +kernel) ⟨Nat.le_of_ble_eq_true rfl, Nat.le_of_ble_eq_true rfl⟩) ⟨zCR, va_recv hK hP (ci := 8) (q0 := p_47) rfl hp_47, fun U hU hW => ⟨rfl, by rw [hU]; exact hP, hE.warm hW⟩⟩ rfl rfl hl.1 rfl (lv_room (Nat.le_of_ble_eq_true rfl)) dX9_forge_130 (cA_le hN))) (fun r48 h => ?_)
                  refine lv_bipush (v := 11) hx hb dX9_forge_133 (by decide) ?_
                  refine lv_icmp_ne (tgt := 148) hx hb dX9_forge_135 (by decide) (fun c_49 => ?_) (fun c_49 => ?_)
                  · have h := h.1 c_49
                    refine lv_iinc (v := x37_3 + 1) (lv' := [(3, .int (x37_3 + 1)), (0, .ref (q_37 15 0)), (1, .ref (q_37 24 y37_1)), (2, .int x37_2)]) hx hb dX9_forge_148 hl (k := 3) rfl rfl (by decide) rfl (fun ls hl => ?_)
                    refine lv_goto (tgt := 37) hx hb dX9_forge_151 (by decide) ?_
                    exact ih_37  q_37 S46 y37_1 x37_2 (x37_3 + 1) H locs _ _ _ h hP hD hS hN (lv_sub hl [1, 2, 3, 0] rfl)
                  · have h := h.2 c_49
                    refine lv_aload_n hx hb dX9_forge_138 rfl (lv_at hl 0 rfl) ?_
                    refine lv_aload_n hx hb dX9_forge_139 rfl (lv_at hl 1 rfl) ?_
                    have hi_50 := h.1
                    have h := h.2
                    obtain ⟨p_50, hp_50⟩ := cget_24 cI cZ cP cF q_37 S46 hi_50
                    refine va_get (D := D) (ci := 8) (v := .ref (q_37 28 y37_1)) (C := RX8) (T := TX8) (N := 10) hx hb hts (fun _ h => List.mem_cons_of_mem _ (List.mem_append_left _ (List.mem_append_left _ (List.mem_append_right _ h)))) hown hK hP p_50 hp_50 rfl 3 (by decide) (hts (.fieldLink RX9 41 "TemplateForge$Program" "heat" "LTemplateForge$Heat;") (List.mem_of_getElem? (i := 43) rfl)) (fun _ h9 => h9) rfl dX9_forge_140 ?_
                    refine lv_iconst (v := 3) hx hb dX9_forge_143 (by decide) ?_
                    refine lv_iload_n hx hb dX9_forge_144 rfl (lv_at hl 3 rfl) ?_
                    obtain ⟨p_51, hp_51⟩ := cget_15 cI cZ cP cF q_37 S46
                    have hi_51 : cin S46 15 0 := Or.inl ⟨by decide, rfl⟩
                    have hFc := zm_free hD hS hA
                    refine va_callv (va_runV (As := [.ref (q_37 28 y37_1), .int 3, .int x37_3]) (rest := []) ⟨hx, hb, hml, hown, hts⟩ (zd_X9_addGuards l D cI cZ cP cF q_37 S46 y37_1 3 x37_3 H.size _ h) (cwV 3 hts zg_zd_X9_forge_zd_X9_addGuards_47 rfl rfl rfl (by decide +kernel) ⟨Nat.le_of_ble_eq_true rfl, Nat.le_of_ble_eq_true rfl⟩) ⟨zCW, va_recv hK hP (ci := 9) (q0 := p_51) rfl hp_51, fun U hU hW => ⟨rfl, by rw [hU], by rw [hU]; exact hP, hE.warm hW, hD.weaken (fun _ _ _ _ => trivial)⟩⟩ rfl rfl hl.1 rfl (lv_room (Nat.le_of_ble_eq_true rfl)) dX9_forge_145 (cA_le hN)) hS (fun q _ h => hFc q h) hFc (fun S52 t H locs ht hvm h hB hz1 hk1 hS => ?_)
                    obtain ⟨hP, hD1, hN1⟩ := hB
                    rw [ht] at hP
                    have hD := hD1.weaken (fun k q _ hq => hFc q.1 hq)
                    have hN := cA_keep hN hN1
                    refine lv_iinc (v := x37_3 + 1) (lv' := [(3, .int (x37_3 + 1)), (0, .ref (q_37 15 0)), (1, .ref (q_37 24 y37_1)), (2, .int x37_2)]) hx hb dX9_forge_148 hl (k := 3) rfl rfl (by decide) rfl (fun ls hl => ?_)
                    refine lv_goto (tgt := 37) hx hb dX9_forge_151 (by decide) ?_
                    exact ih_37  q_37 S52 y37_1 x37_2 (x37_3 + 1) H locs _ _ _ h hP hD hS hN (lv_sub hl [1, 2, 3, 0] rfl)
              · have h := h.2 c_28
                refine lv_aload_n hx hb dX9_forge_73 rfl (lv_at hl 1 rfl) ?_
                refine lv_iload_n hx hb dX9_forge_74 rfl (lv_at hl 3 rfl) ?_
                refine lv_iconst (v := 1) hx hb dX9_forge_75 (by decide) ?_
                refine lv_isub hx hb dX9_forge_76 ?_
                have hi_53 := h.1
                have h := h.2
                obtain ⟨p_53, hp_53⟩ := cget_24 cI cZ cP cF q_37 S_37 hi_53
                refine vp_callSi (va_Run.run (va_runV (As := [.int (x37_3 - 1)]) (rest := []) ⟨hx, hb, hml, hown, hts⟩ (zd_X8_goesOnAt l D cI cZ cP cF q_37 S_37 y37_1 (x37_3 - 1)  _ h) (cwV 1 hts zg_zd_X9_forge_zd_X8_goesOnAt_63 rfl rfl rfl (by decide +kernel) ⟨Nat.le_of_ble_eq_true rfl, Nat.le_of_ble_eq_true rfl⟩) ⟨zCR, va_recv hK hP (ci := 8) (q0 := p_53) rfl hp_53, fun U hU hW => ⟨rfl, by rw [hU]; exact hP, hE.warm hW⟩⟩ rfl rfl hl.1 rfl (lv_room (Nat.le_of_ble_eq_true rfl)) dX9_forge_77 (cA_le hN))) (fun r54 h => ?_)
                refine lv_if_eq (tgt := 94) hx hb dX9_forge_80 (by decide) (fun c_55 => ?_) (fun c_55 => ?_)
                · have h := h.1 c_55
                  refine lv_aload_n hx hb dX9_forge_94 rfl (lv_at hl 0 rfl) ?_
                  refine lv_aload_n hx hb dX9_forge_95 rfl (lv_at hl 1 rfl) ?_
                  have hi_56 := h.1
                  have h := h.2
                  obtain ⟨p_56, hp_56⟩ := cget_24 cI cZ cP cF q_37 S_37 hi_56
                  refine va_get (D := D) (ci := 8) (v := .ref (q_37 28 y37_1)) (C := RX8) (T := TX8) (N := 10) hx hb hts (fun _ h => List.mem_cons_of_mem _ (List.mem_append_left _ (List.mem_append_left _ (List.mem_append_right _ h)))) hown hK hP p_56 hp_56 rfl 3 (by decide) (hts (.fieldLink RX9 41 "TemplateForge$Program" "heat" "LTemplateForge$Heat;") (List.mem_of_getElem? (i := 43) rfl)) (fun _ h9 => h9) rfl dX9_forge_96 ?_
                  obtain ⟨p_57, hp_57⟩ := cget_15 cI cZ cP cF q_37 S_37
                  have hi_57 : cin S_37 15 0 := Or.inl ⟨by decide, rfl⟩
                  have hFc := zm_free hD hS hA
                  refine va_callv (va_runV (As := [.ref (q_37 28 y37_1)]) (rest := []) ⟨hx, hb, hml, hown, hts⟩ (zd_X9_knowArgsAlone l D cI cZ cP cF q_37 S_37 y37_1 H.size _ h) (cwV 1 hts zg_zd_X9_forge_zd_X9_knowArgsAlone_70 rfl rfl rfl (by decide +kernel) ⟨Nat.le_of_ble_eq_true rfl, Nat.le_of_ble_eq_true rfl⟩) ⟨zCW, va_recv hK hP (ci := 9) (q0 := p_57) rfl hp_57, fun U hU hW => ⟨rfl, by rw [hU], by rw [hU]; exact hP, hE.warm hW, hD.weaken (fun _ _ _ _ => trivial)⟩⟩ rfl rfl hl.1 rfl (lv_room (Nat.le_of_ble_eq_true rfl)) dX9_forge_99 (cA_le hN)) hS (fun q _ h => hFc q h) hFc (fun S58 t H locs ht hvm h hB hz1 hk1 hS => ?_)
                  obtain ⟨hP, hD1, hN1⟩ := hB
                  rw [ht] at hP
                  have hD := hD1.weaken (fun k q _ hq => hFc q.1 hq)
                  have hN := cA_keep hN hN1
                  refine lv_aload_n hx hb dX9_forge_102 rfl (lv_at hl 0 rfl) ?_
                  obtain ⟨p_59, hp_59⟩ := cget_15 cI cZ cP cF q_37 S58
                  have hi_59 : cin S58 15 0 := Or.inl ⟨by decide, rfl⟩
                  refine va_get (D := D) (ci := 9) (v := .ref (q_37 7 0)) (C := RX9) (T := TX9) (N := 5) hx hb hts (fun _ h => List.mem_cons_of_mem _ (List.mem_append_left _ (List.mem_append_left _ (List.mem_append_left _ (List.mem_append_left _ (List.mem_append_right _ h)))))) hown hK hP p_59 hp_59 rfl 0 (by decide) (hts (.fieldLink RX9 25 "TemplateForge$Smith" "draft" "LTemplateForge$Draft;") (List.mem_of_getElem? (i := 1) rfl)) (fun _ h9 => h9) rfl dX9_forge_103 ?_
                  refine lv_iload_n hx hb dX9_forge_106 rfl (lv_at hl 3 rfl) ?_
                  obtain ⟨p_60, hp_60⟩ := cget_7 cI cZ cP cF q_37 S58
                  have hi_60 : cin S58 7 0 := Or.inl ⟨by decide, rfl⟩
                  have hFc := zm_free hD hS hA
                  refine va_callv (va_runV (As := [.int x37_3]) (rest := []) ⟨hx, hb, hml, hown, hts⟩ (zd_X3_begin l D cI cZ cP cF q_37 S58 x37_3 H.size _ h) (cwV 1 hts zg_zd_X9_forge_zd_X3_begin_74 rfl rfl rfl (by decide +kernel) ⟨Nat.le_of_ble_eq_true rfl, Nat.le_of_ble_eq_true rfl⟩) ⟨zCW, va_recv hK hP (ci := 3) (q0 := p_60) rfl hp_60, fun U hU hW => ⟨rfl, by rw [hU], by rw [hU]; exact hP, hE.warm hW, hD.weaken (fun _ _ _ _ => trivial)⟩⟩ rfl rfl hl.1 rfl (lv_room (Nat.le_of_ble_eq_true rfl)) dX9_forge_107 (cA_le hN)) hS (fun q _ h => hFc q h) hFc (fun S61 t H locs ht hvm h hB hz1 hk1 hS => ?_)
                  obtain ⟨hP, hD1, hN1⟩ := hB
                  rw [ht] at hP
                  have hD := hD1.weaken (fun k q _ hq => hFc q.1 hq)
                  have hN := cA_keep hN hN1
                  refine lv_aload_n hx hb dX9_forge_110 rfl (lv_at hl 0 rfl) ?_
                  refine lv_aload_n hx hb dX9_forge_111 rfl (lv_at hl 1 rfl) ?_
                  refine lv_iload_n hx hb dX9_forge_112 rfl (lv_at hl 3 rfl) ?_
                  obtain ⟨p_62, hp_62⟩ := cget_15 cI cZ cP cF q_37 S61
                  have hi_62 : cin S61 15 0 := Or.inl ⟨by decide, rfl⟩
                  have hFc := zm_free hD hS hA
                  refine va_calli (va_runV (As := [.ref (q_37 24 y37_1), .int x37_3]) (rest := []) ⟨hx, hb, hml, hown, hts⟩ (zd_X9_wantsTemplate l D cI cZ cP cF q_37 S61 y37_1 x37_3 H.size _ h) (cwV 2 hts zg_zd_X9_forge_zd_X9_wantsTemplate_78 rfl rfl rfl (by decide +kernel) ⟨Nat.le_of_ble_eq_true rfl, Nat.le_of_ble_eq_true rfl⟩) ⟨zCW, va_recv hK hP (ci := 9) (q0 := p_62) rfl hp_62, fun U hU hW => ⟨rfl, by rw [hU], by rw [hU]; exact hP, hE.warm hW, hD.weaken (fun _ _ _ _ => trivial)⟩⟩ rfl rfl hl.1 rfl (lv_room (Nat.le_of_ble_eq_true rfl)) dX9_forge_113 (cA_le hN)) hS (fun q _ h => hFc q h) hFc (fun r63 S63 t H locs ht hvm h hB hz1 hk1 hS => ?_)
                  obtain ⟨hP, hD1, hN1⟩ := hB
                  rw [ht] at hP
                  have hD := hD1.weaken (fun k q _ hq => hFc q.1 hq)
                  have hN := cA_keep hN hN1
                  refine lv_if_eq (tgt := 128) hx hb dX9_forge_116 (by decide) (fun c_64 => ?_) (fun c_64 => ?_)
                  · have h := h.1 c_64
                    refine lv_aload_n hx hb dX9_forge_128 rfl (lv_at hl 1 rfl) ?_
                    refine lv_iload_n hx hb dX9_forge_129 rfl (lv_at hl 3 rfl) ?_
                    have hi_65 := h.1
                    have h := h.2
                    obtain ⟨p_65, hp_65⟩ := cget_24 cI cZ cP cF q_37 S63 hi_65
                    refine vp_callSi (va_Run.run (va_runV (As := [.int x37_3]) (rest := []) ⟨hx, hb, hml, hown, hts⟩ (zd_X8_opAt l D cI cZ cP cF q_37 S63 y37_1 x37_3  _ h) (cwV 1 hts zg_zd_X9_forge_zd_X8_opAt_86 rfl rfl rfl (by decide +kernel) ⟨Nat.le_of_ble_eq_true rfl, Nat.le_of_ble_eq_true rfl⟩) ⟨zCR, va_recv hK hP (ci := 8) (q0 := p_65) rfl hp_65, fun U hU hW => ⟨rfl, by rw [hU]; exact hP, hE.warm hW⟩⟩ rfl rfl hl.1 rfl (lv_room (Nat.le_of_ble_eq_true rfl)) dX9_forge_130 (cA_le hN))) (fun r66 h => ?_)
                    refine lv_bipush (v := 11) hx hb dX9_forge_133 (by decide) ?_
                    refine lv_icmp_ne (tgt := 148) hx hb dX9_forge_135 (by decide) (fun c_67 => ?_) (fun c_67 => ?_)
                    · have h := h.1 c_67
                      refine lv_iinc (v := x37_3 + 1) (lv' := [(3, .int (x37_3 + 1)), (0, .ref (q_37 15 0)), (1, .ref (q_37 24 y37_1)), (2, .int x37_2)]) hx hb dX9_forge_148 hl (k := 3) rfl rfl (by decide) rfl (fun ls hl => ?_)
                      refine lv_goto (tgt := 37) hx hb dX9_forge_151 (by decide) ?_
                      exact ih_37  q_37 S63 y37_1 x37_2 (x37_3 + 1) H locs _ _ _ h hP hD hS hN (lv_sub hl [1, 2, 3, 0] rfl)
                    · have h := h.2 c_67
                      refine lv_aload_n hx hb dX9_forge_138 rfl (lv_at hl 0 rfl) ?_
                      refine lv_aload_n hx hb dX9_forge_139 rfl (lv_at hl 1 rfl) ?_
                      have hi_68 := h.1
                      have h := h.2
                      obtain ⟨p_68, hp_68⟩ := cget_24 cI cZ cP cF q_37 S63 hi_68
                      refine va_get (D := D) (ci := 8) (v := .ref (q_37 28 y37_1)) (C := RX8) (T := TX8) (N := 10) hx hb hts (fun _ h => List.mem_cons_of_mem _ (List.mem_append_left _ (List.mem_append_left _ (List.mem_append_right _ h)))) hown hK hP p_68 hp_68 rfl 3 (by decide) (hts (.fieldLink RX9 41 "TemplateForge$Program" "heat" "LTemplateForge$Heat;") (List.mem_of_getElem? (i := 43) rfl)) (fun _ h9 => h9) rfl dX9_forge_140 ?_
                      refine lv_iconst (v := 3) hx hb dX9_forge_143 (by decide) ?_
                      refine lv_iload_n hx hb dX9_forge_144 rfl (lv_at hl 3 rfl) ?_
                      obtain ⟨p_69, hp_69⟩ := cget_15 cI cZ cP cF q_37 S63
                      have hi_69 : cin S63 15 0 := Or.inl ⟨by decide, rfl⟩
                      have hFc := zm_free hD hS hA
                      refine va_callv (va_runV (As := [.ref (q_37 28 y37_1), .int 3, .int x37_3]) (rest := []) ⟨hx, hb, hml, hown, hts⟩ (zd_X9_addGuards l D cI cZ cP cF q_37 S63 y37_1 3 x37_3 H.size _ h) (cwV 3 hts zg_zd_X9_forge_zd_X9_addGuards_47 rfl rfl rfl (by decide +kernel) ⟨Nat.le_of_ble_eq_true rfl, Nat.le_of_ble_eq_true rfl⟩) ⟨zCW, va_recv hK hP (ci := 9) (q0 := p_69) rfl hp_69, fun U hU hW => ⟨rfl, by rw [hU], by rw [hU]; exact hP, hE.warm hW, hD.weaken (fun _ _ _ _ => trivial)⟩⟩ rfl rfl hl.1 rfl (lv_room (Nat.le_of_ble_eq_true rfl)) dX9_forge_145 (cA_le hN)) hS (fun q _ h => hFc q h) hFc (fun S70 t H locs ht hvm h hB hz1 hk1 hS => ?_)
                      obtain ⟨hP, hD1, hN1⟩ := hB
                      rw [ht] at hP
                      have hD := hD1.weaken (fun k q _ hq => hFc q.1 hq)
                      have hN := cA_keep hN hN1
                      refine lv_iinc (v := x37_3 + 1) (lv' := [(3, .int (x37_3 + 1)), (0, .ref (q_37 15 0)), (1, .ref (q_37 24 y37_1)), (2, .int x37_2)]) hx hb dX9_forge_148 hl (k := 3) rfl rfl (by decide) rfl (fun ls hl => ?_)
                      refine lv_goto (tgt := 37) hx hb dX9_forge_151 (by decide) ?_
                      exact ih_37  q_37 S70 y37_1 x37_2 (x37_3 + 1) H locs _ _ _ h hP hD hS hN (lv_sub hl [1, 2, 3, 0] rfl)
                  · have h := h.2 c_64
                    refine lv_aload_n hx hb dX9_forge_119 rfl (lv_at hl 0 rfl) ?_
                    obtain ⟨p_71, hp_71⟩ := cget_15 cI cZ cP cF q_37 S63
                    have hi_71 : cin S63 15 0 := Or.inl ⟨by decide, rfl⟩
                    refine va_get (D := D) (ci := 9) (v := .ref (q_37 7 0)) (C := RX9) (T := TX9) (N := 5) hx hb hts (fun _ h => List.mem_cons_of_mem _ (List.mem_append_left _ (List.mem_append_left _ (List.mem_append_left _ (List.mem_append_left _ (List.mem_append_right _ h)))))) hown hK hP p_71 hp_71 rfl 0 (by decide) (hts (.fieldLink RX9 25 "TemplateForge$Smith" "draft" "LTemplateForge$Draft;") (List.mem_of_getElem? (i := 1) rfl)) (fun _ h9 => h9) rfl dX9_forge_120 ?_
                    refine lv_aload_n hx hb dX9_forge_123 rfl (lv_at hl 1 rfl) ?_
                    refine lv_iload_n hx hb dX9_forge_124 rfl (lv_at hl 3 rfl) ?_
                    obtain ⟨p_72, hp_72⟩ := cget_7 cI cZ cP cF q_37 S63
                    have hi_72 : cin S63 7 0 := Or.inl ⟨by decide, rfl⟩
                    have hFc := zm_free hD hS hA
                    refine va_callv (va_runV (As := [.ref (q_37 24 y37_1), .int x37_3]) (rest := []) ⟨hx, hb, hml, hown, hts⟩ (zd_X3_addTemplate l D cI cZ cP cF q_37 S63 y37_1 x37_3 H.size _ h) (cwV 2 hts zg_zd_X9_forge_zd_X3_addTemplate_82 rfl rfl rfl (by decide +kernel) ⟨Nat.le_of_ble_eq_true rfl, Nat.le_of_ble_eq_true rfl⟩) ⟨zCW, va_recv hK hP (ci := 3) (q0 := p_72) rfl hp_72, fun U hU hW => ⟨rfl, by rw [hU], by rw [hU]; exact hP, hE.warm hW, hD.weaken (fun _ _ _ _ => trivial)⟩⟩ rfl rfl hl.1 rfl (lv_room (Nat.le_of_ble_eq_true rfl)) dX9_forge_125 (cA_le hN)) hS (fun q _ h => hFc q h) hFc (fun S73 t H locs ht hvm h hB hz1 hk1 hS => ?_)
                    obtain ⟨hP, hD1, hN1⟩ := hB
                    rw [ht] at hP
                    have hD := hD1.weaken (fun k q _ hq => hFc q.1 hq)
                    have hN := cA_keep hN hN1
                    refine lv_aload_n hx hb dX9_forge_128 rfl (lv_at hl 1 rfl) ?_
                    refine lv_iload_n hx hb dX9_forge_129 rfl (lv_at hl 3 rfl) ?_
                    have hi_74 := h.1
                    have h := h.2
                    obtain ⟨p_74, hp_74⟩ := cget_24 cI cZ cP cF q_37 S73 hi_74
                    refine vp_callSi (va_Run.run (va_runV (As := [.int x37_3]) (rest := []) ⟨hx, hb, hml, hown, hts⟩ (zd_X8_opAt l D cI cZ cP cF q_37 S73 y37_1 x37_3  _ h) (cwV 1 hts zg_zd_X9_forge_zd_X8_opAt_86 rfl rfl rfl (by decide +kernel) ⟨Nat.le_of_ble_eq_true rfl, Nat.le_of_ble_eq_true rfl⟩) ⟨zCR, va_recv hK hP (ci := 8) (q0 := p_74) rfl hp_74, fun U hU hW => ⟨rfl, by rw [hU]; exact hP, hE.warm hW⟩⟩ rfl rfl hl.1 rfl (lv_room (Nat.le_of_ble_eq_true rfl)) dX9_forge_130 (cA_le hN))) (fun r75 h => ?_)
                    refine lv_bipush (v := 11) hx hb dX9_forge_133 (by decide) ?_
                    refine lv_icmp_ne (tgt := 148) hx hb dX9_forge_135 (by decide) (fun c_76 => ?_) (fun c_76 => ?_)
                    · have h := h.1 c_76
                      refine lv_iinc (v := x37_3 + 1) (lv' := [(3, .int (x37_3 + 1)), (0, .ref (q_37 15 0)), (1, .ref (q_37 24 y37_1)), (2, .int x37_2)]) hx hb dX9_forge_148 hl (k := 3) rfl rfl (by decide) rfl (fun ls hl => ?_)
                      refine lv_goto (tgt := 37) hx hb dX9_forge_151 (by decide) ?_
                      exact ih_37  q_37 S73 y37_1 x37_2 (x37_3 + 1) H locs _ _ _ h hP hD hS hN (lv_sub hl [1, 2, 3, 0] rfl)
                    · have h := h.2 c_76
                      refine lv_aload_n hx hb dX9_forge_138 rfl (lv_at hl 0 rfl) ?_
                      refine lv_aload_n hx hb dX9_forge_139 rfl (lv_at hl 1 rfl) ?_
                      have hi_77 := h.1
                      have h := h.2
                      obtain ⟨p_77, hp_77⟩ := cget_24 cI cZ cP cF q_37 S73 hi_77
                      refine va_get (D := D) (ci := 8) (v := .ref (q_37 28 y37_1)) (C := RX8) (T := TX8) (N := 10) hx hb hts (fun _ h => List.mem_cons_of_mem _ (List.mem_append_left _ (List.mem_append_left _ (List.mem_append_right _ h)))) hown hK hP p_77 hp_77 rfl 3 (by decide) (hts (.fieldLink RX9 41 "TemplateForge$Program" "heat" "LTemplateForge$Heat;") (List.mem_of_getElem? (i := 43) rfl)) (fun _ h9 => h9) rfl dX9_forge_140 ?_
                      refine lv_iconst (v := 3) hx hb dX9_forge_143 (by decide) ?_
                      refine lv_iload_n hx hb dX9_forge_144 rfl (lv_at hl 3 rfl) ?_
                      obtain ⟨p_78, hp_78⟩ := cget_15 cI cZ cP cF q_37 S73
                      have hi_78 : cin S73 15 0 := Or.inl ⟨by decide, rfl⟩
                      have hFc := zm_free hD hS hA
                      refine va_callv (va_runV (As := [.ref (q_37 28 y37_1), .int 3, .int x37_3]) (rest := []) ⟨hx, hb, hml, hown, hts⟩ (zd_X9_addGuards l D cI cZ cP cF q_37 S73 y37_1 3 x37_3 H.size _ h) (cwV 3 hts zg_zd_X9_forge_zd_X9_addGuards_47 rfl rfl rfl (by decide +kernel) ⟨Nat.le_of_ble_eq_true rfl, Nat.le_of_ble_eq_true rfl⟩) ⟨zCW, va_recv hK hP (ci := 9) (q0 := p_78) rfl hp_78, fun U hU hW => ⟨rfl, by rw [hU], by rw [hU]; exact hP, hE.warm hW, hD.weaken (fun _ _ _ _ => trivial)⟩⟩ rfl rfl hl.1 rfl (lv_room (Nat.le_of_ble_eq_true rfl)) dX9_forge_145 (cA_le hN)) hS (fun q _ h => hFc q h) hFc (fun S79 t H locs ht hvm h hB hz1 hk1 hS => ?_)
                      obtain ⟨hP, hD1, hN1⟩ := hB
                      rw [ht] at hP
                      have hD := hD1.weaken (fun k q _ hq => hFc q.1 hq)
                      have hN := cA_keep hN hN1
                      refine lv_iinc (v := x37_3 + 1) (lv' := [(3, .int (x37_3 + 1)), (0, .ref (q_37 15 0)), (1, .ref (q_37 24 y37_1)), (2, .int x37_2)]) hx hb dX9_forge_148 hl (k := 3) rfl rfl (by decide) rfl (fun ls hl => ?_)
                      refine lv_goto (tgt := 37) hx hb dX9_forge_151 (by decide) ?_
                      exact ih_37  q_37 S79 y37_1 x37_2 (x37_3 + 1) H locs _ _ _ h hP hD hS hN (lv_sub hl [1, 2, 3, 0] rfl)
                · have h := h.2 c_55
                  refine lv_aload_n hx hb dX9_forge_83 rfl (lv_at hl 0 rfl) ?_
                  refine lv_bipush (v := 7) hx hb dX9_forge_84 (by decide) ?_
                  refine lv_bipush (v := 14) hx hb dX9_forge_86 (by decide) ?_
                  refine lv_iload_n hx hb dX9_forge_88 rfl (lv_at hl 3 rfl) ?_
                  refine lv_iconst (v := 1) hx hb dX9_forge_89 (by decide) ?_
                  refine lv_isub hx hb dX9_forge_90 ?_
                  obtain ⟨p_80, hp_80⟩ := cget_15 cI cZ cP cF q_37 S_37
                  have hi_80 : cin S_37 15 0 := Or.inl ⟨by decide, rfl⟩
                  have hFc := zm_free hD hS hA
                  refine va_callv (va_runV (As := [.int 7, .int 14, .int (x37_3 - 1)]) (rest := []) ⟨hx, hb, hml, hown, hts⟩ (zd_X9_lay l D cI cZ cP cF q_37 S_37 7 14 (x37_3 - 1) H.size _ h) (cwV 3 hts zg_zd_X9_forge_zd_X9_lay_66 rfl rfl rfl (by decide +kernel) ⟨Nat.le_of_ble_eq_true rfl, Nat.le_of_ble_eq_true rfl⟩) ⟨zCW, va_recv hK hP (ci := 9) (q0 := p_80) rfl hp_80, fun U hU hW => ⟨rfl, by rw [hU], by rw [hU]; exact hP, hE.warm hW, hD.weaken (fun _ _ _ _ => trivial)⟩⟩ rfl rfl hl.1 rfl (lv_room (Nat.le_of_ble_eq_true rfl)) dX9_forge_91 (cA_le hN)) hS (fun q _ h => hFc q h) hFc (fun S81 t H locs ht hvm h hB hz1 hk1 hS => ?_)
                  obtain ⟨hP, hD1, hN1⟩ := hB
                  rw [ht] at hP
                  have hD := hD1.weaken (fun k q _ hq => hFc q.1 hq)
                  have hN := cA_keep hN hN1
                  refine lv_aload_n hx hb dX9_forge_94 rfl (lv_at hl 0 rfl) ?_
                  refine lv_aload_n hx hb dX9_forge_95 rfl (lv_at hl 1 rfl) ?_
                  have hi_82 := h.1
                  have h := h.2
                  obtain ⟨p_82, hp_82⟩ := cget_24 cI cZ cP cF q_37 S81 hi_82
                  refine va_get (D := D) (ci := 8) (v := .ref (q_37 28 y37_1)) (C := RX8) (T := TX8) (N := 10) hx hb hts (fun _ h => List.mem_cons_of_mem _ (List.mem_append_left _ (List.mem_append_left _ (List.mem_append_right _ h)))) hown hK hP p_82 hp_82 rfl 3 (by decide) (hts (.fieldLink RX9 41 "TemplateForge$Program" "heat" "LTemplateForge$Heat;") (List.mem_of_getElem? (i := 43) rfl)) (fun _ h9 => h9) rfl dX9_forge_96 ?_
                  obtain ⟨p_83, hp_83⟩ := cget_15 cI cZ cP cF q_37 S81
                  have hi_83 : cin S81 15 0 := Or.inl ⟨by decide, rfl⟩
                  have hFc := zm_free hD hS hA
                  refine va_callv (va_runV (As := [.ref (q_37 28 y37_1)]) (rest := []) ⟨hx, hb, hml, hown, hts⟩ (zd_X9_knowArgsAlone l D cI cZ cP cF q_37 S81 y37_1 H.size _ h) (cwV 1 hts zg_zd_X9_forge_zd_X9_knowArgsAlone_70 rfl rfl rfl (by decide +kernel) ⟨Nat.le_of_ble_eq_true rfl, Nat.le_of_ble_eq_true rfl⟩) ⟨zCW, va_recv hK hP (ci := 9) (q0 := p_83) rfl hp_83, fun U hU hW => ⟨rfl, by rw [hU], by rw [hU]; exact hP, hE.warm hW, hD.weaken (fun _ _ _ _ => trivial)⟩⟩ rfl rfl hl.1 rfl (lv_room (Nat.le_of_ble_eq_true rfl)) dX9_forge_99 (cA_le hN)) hS (fun q _ h => hFc q h) hFc (fun S84 t H locs ht hvm h hB hz1 hk1 hS => ?_)
                  obtain ⟨hP, hD1, hN1⟩ := hB
                  rw [ht] at hP
                  have hD := hD1.weaken (fun k q _ hq => hFc q.1 hq)
                  have hN := cA_keep hN hN1
                  refine lv_aload_n hx hb dX9_forge_102 rfl (lv_at hl 0 rfl) ?_
                  obtain ⟨p_85, hp_85⟩ := cget_15 cI cZ cP cF q_37 S84
                  have hi_85 : cin S84 15 0 := Or.inl ⟨by decide, rfl⟩
                  refine va_get (D := D) (ci := 9) (v := .ref (q_37 7 0)) (C := RX9) (T := TX9) (N := 5) hx hb hts (fun _ h => List.mem_cons_of_mem _ (List.mem_append_left _ (List.mem_append_left _ (List.mem_append_left _ (List.mem_append_left _ (List.mem_append_right _ h)))))) hown hK hP p_85 hp_85 rfl 0 (by decide) (hts (.fieldLink RX9 25 "TemplateForge$Smith" "draft" "LTemplateForge$Draft;") (List.mem_of_getElem? (i := 1) rfl)) (fun _ h9 => h9) rfl dX9_forge_103 ?_
                  refine lv_iload_n hx hb dX9_forge_106 rfl (lv_at hl 3 rfl) ?_
                  obtain ⟨p_86, hp_86⟩ := cget_7 cI cZ cP cF q_37 S84
                  have hi_86 : cin S84 7 0 := Or.inl ⟨by decide, rfl⟩
                  have hFc := zm_free hD hS hA
                  refine va_callv (va_runV (As := [.int x37_3]) (rest := []) ⟨hx, hb, hml, hown, hts⟩ (zd_X3_begin l D cI cZ cP cF q_37 S84 x37_3 H.size _ h) (cwV 1 hts zg_zd_X9_forge_zd_X3_begin_74 rfl rfl rfl (by decide +kernel) ⟨Nat.le_of_ble_eq_true rfl, Nat.le_of_ble_eq_true rfl⟩) ⟨zCW, va_recv hK hP (ci := 3) (q0 := p_86) rfl hp_86, fun U hU hW => ⟨rfl, by rw [hU], by rw [hU]; exact hP, hE.warm hW, hD.weaken (fun _ _ _ _ => trivial)⟩⟩ rfl rfl hl.1 rfl (lv_room (Nat.le_of_ble_eq_true rfl)) dX9_forge_107 (cA_le hN)) hS (fun q _ h => hFc q h) hFc (fun S87 t H locs ht hvm h hB hz1 hk1 hS => ?_)
                  obtain ⟨hP, hD1, hN1⟩ := hB
                  rw [ht] at hP
                  have hD := hD1.weaken (fun k q _ hq => hFc q.1 hq)
                  have hN := cA_keep hN hN1
                  refine lv_aload_n hx hb dX9_forge_110 rfl (lv_at hl 0 rfl) ?_
                  refine lv_aload_n hx hb dX9_forge_111 rfl (lv_at hl 1 rfl) ?_
                  refine lv_iload_n hx hb dX9_forge_112 rfl (lv_at hl 3 rfl) ?_
                  obtain ⟨p_88, hp_88⟩ := cget_15 cI cZ cP cF q_37 S87
                  have hi_88 : cin S87 15 0 := Or.inl ⟨by decide, rfl⟩
                  have hFc := zm_free hD hS hA
                  refine va_calli (va_runV (As := [.ref (q_37 24 y37_1), .int x37_3]) (rest := []) ⟨hx, hb, hml, hown, hts⟩ (zd_X9_wantsTemplate l D cI cZ cP cF q_37 S87 y37_1 x37_3 H.size _ h) (cwV 2 hts zg_zd_X9_forge_zd_X9_wantsTemplate_78 rfl rfl rfl (by decide +kernel) ⟨Nat.le_of_ble_eq_true rfl, Nat.le_of_ble_eq_true rfl⟩) ⟨zCW, va_recv hK hP (ci := 9) (q0 := p_88) rfl hp_88, fun U hU hW => ⟨rfl, by rw [hU], by rw [hU]; exact hP, hE.warm hW, hD.weaken (fun _ _ _ _ => trivial)⟩⟩ rfl rfl hl.1 rfl (lv_room (Nat.le_of_ble_eq_true rfl)) dX9_forge_113 (cA_le hN)) hS (fun q _ h => hFc q h) hFc (fun r89 S89 t H locs ht hvm h hB hz1 hk1 hS => ?_)
                  obtain ⟨hP, hD1, hN1⟩ := hB
                  rw [ht] at hP
                  have hD := hD1.weaken (fun k q _ hq => hFc q.1 hq)
                  have hN := cA_keep hN hN1
                  refine lv_if_eq (tgt := 128) hx hb dX9_forge_116 (by decide) (fun c_90 => ?_) (fun c_90 => ?_)
                  · have h := h.1 c_90
                    refine lv_aload_n hx hb dX9_forge_128 rfl (lv_at hl 1 rfl) ?_
                    refine lv_iload_n hx hb dX9_forge_129 rfl (lv_at hl 3 rfl) ?_
                    have hi_91 := h.1
                    have h := h.2
                    obtain ⟨p_91, hp_91⟩ := cget_24 cI cZ cP cF q_37 S89 hi_91
                    refine vp_callSi (va_Run.run (va_runV (As := [.int x37_3]) (rest := []) ⟨hx, hb, hml, hown, hts⟩ (zd_X8_opAt l D cI cZ cP cF q_37 S89 y37_1 x37_3  _ h) (cwV 1 hts zg_zd_X9_forge_zd_X8_opAt_86 rfl rfl rfl (by decide +kernel) ⟨Nat.le_of_ble_eq_true rfl, Nat.le_of_ble_eq_true rfl⟩) ⟨zCR, va_recv hK hP (ci := 8) (q0 := p_91) rfl hp_91, fun U hU hW => ⟨rfl, by rw [hU]; exact hP, hE.warm hW⟩⟩ rfl rfl hl.1 rfl (lv_room (Nat.le_of_ble_eq_true rfl)) dX9_forge_130 (cA_le hN))) (fun r92 h => ?_)
                    refine lv_bipush (v := 11) hx hb dX9_forge_133 (by decide) ?_
                    refine lv_icmp_ne (tgt := 148) hx hb dX9_forge_135 (by decide) (fun c_93 => ?_) (fun c_93 => ?_)
                    · have h := h.1 c_93
                      refine lv_iinc (v := x37_3 + 1) (lv' := [(3, .int (x37_3 + 1)), (0, .ref (q_37 15 0)), (1, .ref (q_37 24 y37_1)), (2, .int x37_2)]) hx hb dX9_forge_148 hl (k := 3) rfl rfl (by decide) rfl (fun ls hl => ?_)
                      refine lv_goto (tgt := 37) hx hb dX9_forge_151 (by decide) ?_
                      exact ih_37  q_37 S89 y37_1 x37_2 (x37_3 + 1) H locs _ _ _ h hP hD hS hN (lv_sub hl [1, 2, 3, 0] rfl)
                    · have h := h.2 c_93
                      refine lv_aload_n hx hb dX9_forge_138 rfl (lv_at hl 0 rfl) ?_
                      refine lv_aload_n hx hb dX9_forge_139 rfl (lv_at hl 1 rfl) ?_
                      have hi_94 := h.1
                      have h := h.2
                      obtain ⟨p_94, hp_94⟩ := cget_24 cI cZ cP cF q_37 S89 hi_94
                      refine va_get (D := D) (ci := 8) (v := .ref (q_37 28 y37_1)) (C := RX8) (T := TX8) (N := 10) hx hb hts (fun _ h => List.mem_cons_of_mem _ (List.mem_append_left _ (List.mem_append_left _ (List.mem_append_right _ h)))) hown hK hP p_94 hp_94 rfl 3 (by decide) (hts (.fieldLink RX9 41 "TemplateForge$Program" "heat" "LTemplateForge$Heat;") (List.mem_of_getElem? (i := 43) rfl)) (fun _ h9 => h9) rfl dX9_forge_140 ?_
                      refine lv_iconst (v := 3) hx hb dX9_forge_143 (by decide) ?_
                      refine lv_iload_n hx hb dX9_forge_144 rfl (lv_at hl 3 rfl) ?_
                      obtain ⟨p_95, hp_95⟩ := cget_15 cI cZ cP cF q_37 S89
                      have hi_95 : cin S89 15 0 := Or.inl ⟨by decide, rfl⟩
                      have hFc := zm_free hD hS hA
                      refine va_callv (va_runV (As := [.ref (q_37 28 y37_1), .int 3, .int x37_3]) (rest := []) ⟨hx, hb, hml, hown, hts⟩ (zd_X9_addGuards l D cI cZ cP cF q_37 S89 y37_1 3 x37_3 H.size _ h) (cwV 3 hts zg_zd_X9_forge_zd_X9_addGuards_47 rfl rfl rfl (by decide +kernel) ⟨Nat.le_of_ble_eq_true rfl, Nat.le_of_ble_eq_true rfl⟩) ⟨zCW, va_recv hK hP (ci := 9) (q0 := p_95) rfl hp_95, fun U hU hW => ⟨rfl, by rw [hU], by rw [hU]; exact hP, hE.warm hW, hD.weaken (fun _ _ _ _ => trivial)⟩⟩ rfl rfl hl.1 rfl (lv_room (Nat.le_of_ble_eq_true rfl)) dX9_forge_145 (cA_le hN)) hS (fun q _ h => hFc q h) hFc (fun S96 t H locs ht hvm h hB hz1 hk1 hS => ?_)
                      obtain ⟨hP, hD1, hN1⟩ := hB
                      rw [ht] at hP
                      have hD := hD1.weaken (fun k q _ hq => hFc q.1 hq)
                      have hN := cA_keep hN hN1
                      refine lv_iinc (v := x37_3 + 1) (lv' := [(3, .int (x37_3 + 1)), (0, .ref (q_37 15 0)), (1, .ref (q_37 24 y37_1)), (2, .int x37_2)]) hx hb dX9_forge_148 hl (k := 3) rfl rfl (by decide) rfl (fun ls hl => ?_)
                      refine lv_goto (tgt := 37) hx hb dX9_forge_151 (by decide) ?_
                      exact ih_37  q_37 S96 y37_1 x37_2 (x37_3 + 1) H locs _ _ _ h hP hD hS hN (lv_sub hl [1, 2, 3, 0] rfl)
                  · have h := h.2 c_90
                    refine lv_aload_n hx hb dX9_forge_119 rfl (lv_at hl 0 rfl) ?_
                    obtain ⟨p_97, hp_97⟩ := cget_15 cI cZ cP cF q_37 S89
                    have hi_97 : cin S89 15 0 := Or.inl ⟨by decide, rfl⟩
                    refine va_get (D := D) (ci := 9) (v := .ref (q_37 7 0)) (C := RX9) (T := TX9) (N := 5) hx hb hts (fun _ h => List.mem_cons_of_mem _ (List.mem_append_left _ (List.mem_append_left _ (List.mem_append_left _ (List.mem_append_left _ (List.mem_append_right _ h)))))) hown hK hP p_97 hp_97 rfl 0 (by decide) (hts (.fieldLink RX9 25 "TemplateForge$Smith" "draft" "LTemplateForge$Draft;") (List.mem_of_getElem? (i := 1) rfl)) (fun _ h9 => h9) rfl dX9_forge_120 ?_
                    refine lv_aload_n hx hb dX9_forge_123 rfl (lv_at hl 1 rfl) ?_
                    refine lv_iload_n hx hb dX9_forge_124 rfl (lv_at hl 3 rfl) ?_
                    obtain ⟨p_98, hp_98⟩ := cget_7 cI cZ cP cF q_37 S89
                    have hi_98 : cin S89 7 0 := Or.inl ⟨by decide, rfl⟩
                    have hFc := zm_free hD hS hA
                    refine va_callv (va_runV (As := [.ref (q_37 24 y37_1), .int x37_3]) (rest := []) ⟨hx, hb, hml, hown, hts⟩ (zd_X3_addTemplate l D cI cZ cP cF q_37 S89 y37_1 x37_3 H.size _ h) (cwV 2 hts zg_zd_X9_forge_zd_X3_addTemplate_82 rfl rfl rfl (by decide +kernel) ⟨Nat.le_of_ble_eq_true rfl, Nat.le_of_ble_eq_true rfl⟩) ⟨zCW, va_recv hK hP (ci := 3) (q0 := p_98) rfl hp_98, fun U hU hW => ⟨rfl, by rw [hU], by rw [hU]; exact hP, hE.warm hW, hD.weaken (fun _ _ _ _ => trivial)⟩⟩ rfl rfl hl.1 rfl (lv_room (Nat.le_of_ble_eq_true rfl)) dX9_forge_125 (cA_le hN)) hS (fun q _ h => hFc q h) hFc (fun S99 t H locs ht hvm h hB hz1 hk1 hS => ?_)
                    obtain ⟨hP, hD1, hN1⟩ := hB
                    rw [ht] at hP
                    have hD := hD1.weaken (fun k q _ hq => hFc q.1 hq)
                    have hN := cA_keep hN hN1
                    refine lv_aload_n hx hb dX9_forge_128 rfl (lv_at hl 1 rfl) ?_
                    refine lv_iload_n hx hb dX9_forge_129 rfl (lv_at hl 3 rfl) ?_
                    have hi_100 := h.1
                    have h := h.2
                    obtain ⟨p_100, hp_100⟩ := cget_24 cI cZ cP cF q_37 S99 hi_100
                    refine vp_callSi (va_Run.run (va_runV (As := [.int x37_3]) (rest := []) ⟨hx, hb, hml, hown, hts⟩ (zd_X8_opAt l D cI cZ cP cF q_37 S99 y37_1 x37_3  _ h) (cwV 1 hts zg_zd_X9_forge_zd_X8_opAt_86 rfl rfl rfl (by decide +kernel) ⟨Nat.le_of_ble_eq_true rfl, Nat.le_of_ble_eq_true rfl⟩) ⟨zCR, va_recv hK hP (ci := 8) (q0 := p_100) rfl hp_100, fun U hU hW => ⟨rfl, by rw [hU]; exact hP, hE.warm hW⟩⟩ rfl rfl hl.1 rfl (lv_room (Nat.le_of_ble_eq_true rfl)) dX9_forge_130 (cA_le hN))) (fun r101 h => ?_)
                    refine lv_bipush (v := 11) hx hb dX9_forge_133 (by decide) ?_
                    refine lv_icmp_ne (tgt := 148) hx hb dX9_forge_135 (by decide) (fun c_102 => ?_) (fun c_102 => ?_)
                    · have h := h.1 c_102
                      refine lv_iinc (v := x37_3 + 1) (lv' := [(3, .int (x37_3 + 1)), (0, .ref (q_37 15 0)), (1, .ref (q_37 24 y37_1)), (2, .int x37_2)]) hx hb dX9_forge_148 hl (k := 3) rfl rfl (by decide) rfl (fun ls hl => ?_)
                      refine lv_goto (tgt := 37) hx hb dX9_forge_151 (by decide) ?_
                      exact ih_37  q_37 S99 y37_1 x37_2 (x37_3 + 1) H locs _ _ _ h hP hD hS hN (lv_sub hl [1, 2, 3, 0] rfl)
                    · have h := h.2 c_102
                      refine lv_aload_n hx hb dX9_forge_138 rfl (lv_at hl 0 rfl) ?_
                      refine lv_aload_n hx hb dX9_forge_139 rfl (lv_at hl 1 rfl) ?_
                      have hi_103 := h.1
                      have h := h.2
                      obtain ⟨p_103, hp_103⟩ := cget_24 cI cZ cP cF q_37 S99 hi_103
                      refine va_get (D := D) (ci := 8) (v := .ref (q_37 28 y37_1)) (C := RX8) (T := TX8) (N := 10) hx hb hts (fun _ h => List.mem_cons_of_mem _ (List.mem_append_left _ (List.mem_append_left _ (List.mem_append_right _ h)))) hown hK hP p_103 hp_103 rfl 3 (by decide) (hts (.fieldLink RX9 41 "TemplateForge$Program" "heat" "LTemplateForge$Heat;") (List.mem_of_getElem? (i := 43) rfl)) (fun _ h9 => h9) rfl dX9_forge_140 ?_
                      refine lv_iconst (v := 3) hx hb dX9_forge_143 (by decide) ?_
                      refine lv_iload_n hx hb dX9_forge_144 rfl (lv_at hl 3 rfl) ?_
                      obtain ⟨p_104, hp_104⟩ := cget_15 cI cZ cP cF q_37 S99
                      have hi_104 : cin S99 15 0 := Or.inl ⟨by decide, rfl⟩
                      have hFc := zm_free hD hS hA
                      refine va_callv (va_runV (As := [.ref (q_37 28 y37_1), .int 3, .int x37_3]) (rest := []) ⟨hx, hb, hml, hown, hts⟩ (zd_X9_addGuards l D cI cZ cP cF q_37 S99 y37_1 3 x37_3 H.size _ h) (cwV 3 hts zg_zd_X9_forge_zd_X9_addGuards_47 rfl rfl rfl (by decide +kernel) ⟨Nat.le_of_ble_eq_true rfl, Nat.le_of_ble_eq_true rfl⟩) ⟨zCW, va_recv hK hP (ci := 9) (q0 := p_104) rfl hp_104, fun U hU hW => ⟨rfl, by rw [hU], by rw [hU]; exact hP, hE.warm hW, hD.weaken (fun _ _ _ _ => trivial)⟩⟩ rfl rfl hl.1 rfl (lv_room (Nat.le_of_ble_eq_true rfl)) dX9_forge_145 (cA_le hN)) hS (fun q _ h => hFc q h) hFc (fun S105 t H locs ht hvm h hB hz1 hk1 hS => ?_)
                      obtain ⟨hP, hD1, hN1⟩ := hB
                      rw [ht] at hP
                      have hD := hD1.weaken (fun k q _ hq => hFc q.1 hq)
                      have hN := cA_keep hN hN1
                      refine lv_iinc (v := x37_3 + 1) (lv' := [(3, .int (x37_3 + 1)), (0, .ref (q_37 15 0)), (1, .ref (q_37 24 y37_1)), (2, .int x37_2)]) hx hb dX9_forge_148 hl (k := 3) rfl rfl (by decide) rfl (fun ls hl => ?_)
                      refine lv_goto (tgt := 37) hx hb dX9_forge_151 (by decide) ?_
                      exact ih_37  q_37 S105 y37_1 x37_2 (x37_3 + 1) H locs _ _ _ h hP hD hS hN (lv_sub hl [1, 2, 3, 0] rfl)
            · have h := h.2 c_27
              refine lv_aload_n hx hb dX9_forge_60 rfl (lv_at hl 0 rfl) ?_
              obtain ⟨p_106, hp_106⟩ := cget_15 cI cZ cP cF q_37 S_37
              have hi_106 : cin S_37 15 0 := Or.inl ⟨by decide, rfl⟩
              refine va_get (D := D) (ci := 9) (v := .ref (q_37 18 0)) (C := RX9) (T := TX9) (N := 5) hx hb hts (fun _ h => List.mem_cons_of_mem _ (List.mem_append_left _ (List.mem_append_left _ (List.mem_append_left _ (List.mem_append_left _ (List.mem_append_right _ h)))))) hown hK hP p_106 hp_106 rfl 3 (by decide) (hts (.fieldLink RX9 19 "TemplateForge$Smith" "target" "[Z") (List.mem_of_getElem? (i := 36) rfl)) (fun _ h9 => h9) rfl dX9_forge_61 ?_
              refine lv_iload_n hx hb dX9_forge_64 rfl (lv_at hl 3 rfl) ?_
              obtain ⟨p_107, hp_107⟩ := cget_18 cI cZ cP cF q_37 S_37
              have hi_107 : cin S_37 18 0 := Or.inl ⟨by decide, rfl⟩
              have hin_107 := h.1
              have h := h.2
              refine va_zald hx hb hK hP p_107 1 hp_107 rfl hin_107 dX9_forge_65 ?_
              refine lv_if_eq (tgt := 102) hx hb dX9_forge_66 (by decide) (fun c_108 => ?_) (fun c_108 => ?_)
              · have h := h.1 c_108
                refine lv_aload_n hx hb dX9_forge_102 rfl (lv_at hl 0 rfl) ?_
                obtain ⟨p_109, hp_109⟩ := cget_15 cI cZ cP cF q_37 S_37
                have hi_109 : cin S_37 15 0 := Or.inl ⟨by decide, rfl⟩
                refine va_get (D := D) (ci := 9) (v := .ref (q_37 7 0)) (C := RX9) (T := TX9) (N := 5) hx hb hts (fun _ h => List.mem_cons_of_mem _ (List.mem_append_left _ (List.mem_append_left _ (List.mem_append_left _ (List.mem_append_left _ (List.mem_append_right _ h)))))) hown hK hP p_109 hp_109 rfl 0 (by decide) (hts (.fieldLink RX9 25 "TemplateForge$Smith" "draft" "LTemplateForge$Draft;") (List.mem_of_getElem? (i := 1) rfl)) (fun _ h9 => h9) rfl dX9_forge_103 ?_
                refine lv_iload_n hx hb dX9_forge_106 rfl (lv_at hl 3 rfl) ?_
                obtain ⟨p_110, hp_110⟩ := cget_7 cI cZ cP cF q_37 S_37
                have hi_110 : cin S_37 7 0 := Or.inl ⟨by decide, rfl⟩
                have hFc := zm_free hD hS hA
                refine va_callv (va_runV (As := [.int x37_3]) (rest := []) ⟨hx, hb, hml, hown, hts⟩ (zd_X3_begin l D cI cZ cP cF q_37 S_37 x37_3 H.size _ h) (cwV 1 hts zg_zd_X9_forge_zd_X3_begin_74 rfl rfl rfl (by decide +kernel) ⟨Nat.le_of_ble_eq_true rfl, Nat.le_of_ble_eq_true rfl⟩) ⟨zCW, va_recv hK hP (ci := 3) (q0 := p_110) rfl hp_110, fun U hU hW => ⟨rfl, by rw [hU], by rw [hU]; exact hP, hE.warm hW, hD.weaken (fun _ _ _ _ => trivial)⟩⟩ rfl rfl hl.1 rfl (lv_room (Nat.le_of_ble_eq_true rfl)) dX9_forge_107 (cA_le hN)) hS (fun q _ h => hFc q h) hFc (fun S111 t H locs ht hvm h hB hz1 hk1 hS => ?_)
                obtain ⟨hP, hD1, hN1⟩ := hB
                rw [ht] at hP
                have hD := hD1.weaken (fun k q _ hq => hFc q.1 hq)
                have hN := cA_keep hN hN1
                refine lv_aload_n hx hb dX9_forge_110 rfl (lv_at hl 0 rfl) ?_
                refine lv_aload_n hx hb dX9_forge_111 rfl (lv_at hl 1 rfl) ?_
                refine lv_iload_n hx hb dX9_forge_112 rfl (lv_at hl 3 rfl) ?_
                obtain ⟨p_112, hp_112⟩ := cget_15 cI cZ cP cF q_37 S111
                have hi_112 : cin S111 15 0 := Or.inl ⟨by decide, rfl⟩
                have hFc := zm_free hD hS hA
                refine va_calli (va_runV (As := [.ref (q_37 24 y37_1), .int x37_3]) (rest := []) ⟨hx, hb, hml, hown, hts⟩ (zd_X9_wantsTemplate l D cI cZ cP cF q_37 S111 y37_1 x37_3 H.size _ h) (cwV 2 hts zg_zd_X9_forge_zd_X9_wantsTemplate_78 rfl rfl rfl (by decide +kernel) ⟨Nat.le_of_ble_eq_true rfl, Nat.le_of_ble_eq_true rfl⟩) ⟨zCW, va_recv hK hP (ci := 9) (q0 := p_112) rfl hp_112, fun U hU hW => ⟨rfl, by rw [hU], by rw [hU]; exact hP, hE.warm hW, hD.weaken (fun _ _ _ _ => trivial)⟩⟩ rfl rfl hl.1 rfl (lv_room (Nat.le_of_ble_eq_true rfl)) dX9_forge_113 (cA_le hN)) hS (fun q _ h => hFc q h) hFc (fun r113 S113 t H locs ht hvm h hB hz1 hk1 hS => ?_)
                obtain ⟨hP, hD1, hN1⟩ := hB
                rw [ht] at hP
                have hD := hD1.weaken (fun k q _ hq => hFc q.1 hq)
                have hN := cA_keep hN hN1
                refine lv_if_eq (tgt := 128) hx hb dX9_forge_116 (by decide) (fun c_114 => ?_) (fun c_114 => ?_)
                · have h := h.1 c_114
                  refine lv_aload_n hx hb dX9_forge_128 rfl (lv_at hl 1 rfl) ?_
                  refine lv_iload_n hx hb dX9_forge_129 rfl (lv_at hl 3 rfl) ?_
                  have hi_115 := h.1
                  have h := h.2
                  obtain ⟨p_115, hp_115⟩ := cget_24 cI cZ cP cF q_37 S113 hi_115
                  refine vp_callSi (va_Run.run (va_runV (As := [.int x37_3]) (rest := []) ⟨hx, hb, hml, hown, hts⟩ (zd_X8_opAt l D cI cZ cP cF q_37 S113 y37_1 x37_3  _ h) (cwV 1 hts zg_zd_X9_forge_zd_X8_opAt_86 rfl rfl rfl (by decide +kernel) ⟨Nat.le_of_ble_eq_true rfl, Nat.le_of_ble_eq_true rfl⟩) ⟨zCR, va_recv hK hP (ci := 8) (q0 := p_115) rfl hp_115, fun U hU hW => ⟨rfl, by rw [hU]; exact hP, hE.warm hW⟩⟩ rfl rfl hl.1 rfl (lv_room (Nat.le_of_ble_eq_true rfl)) dX9_forge_130 (cA_le hN))) (fun r116 h => ?_)
                  refine lv_bipush (v := 11) hx hb dX9_forge_133 (by decide) ?_
                  refine lv_icmp_ne (tgt := 148) hx hb dX9_forge_135 (by decide) (fun c_117 => ?_) (fun c_117 => ?_)
                  · have h := h.1 c_117
                    refine lv_iinc (v := x37_3 + 1) (lv' := [(3, .int (x37_3 + 1)), (0, .ref (q_37 15 0)), (1, .ref (q_37 24 y37_1)), (2, .int x37_2)]) hx hb dX9_forge_148 hl (k := 3) rfl rfl (by decide) rfl (fun ls hl => ?_)
                    refine lv_goto (tgt := 37) hx hb dX9_forge_151 (by decide) ?_
                    exact ih_37  q_37 S113 y37_1 x37_2 (x37_3 + 1) H locs _ _ _ h hP hD hS hN (lv_sub hl [1, 2, 3, 0] rfl)
                  · have h := h.2 c_117
                    refine lv_aload_n hx hb dX9_forge_138 rfl (lv_at hl 0 rfl) ?_
                    refine lv_aload_n hx hb dX9_forge_139 rfl (lv_at hl 1 rfl) ?_
                    have hi_118 := h.1
                    have h := h.2
                    obtain ⟨p_118, hp_118⟩ := cget_24 cI cZ cP cF q_37 S113 hi_118
                    refine va_get (D := D) (ci := 8) (v := .ref (q_37 28 y37_1)) (C := RX8) (T := TX8) (N := 10) hx hb hts (fun _ h => List.mem_cons_of_mem _ (List.mem_append_left _ (List.mem_append_left _ (List.mem_append_right _ h)))) hown hK hP p_118 hp_118 rfl 3 (by decide) (hts (.fieldLink RX9 41 "TemplateForge$Program" "heat" "LTemplateForge$Heat;") (List.mem_of_getElem? (i := 43) rfl)) (fun _ h9 => h9) rfl dX9_forge_140 ?_
                    refine lv_iconst (v := 3) hx hb dX9_forge_143 (by decide) ?_
                    refine lv_iload_n hx hb dX9_forge_144 rfl (lv_at hl 3 rfl) ?_
                    obtain ⟨p_119, hp_119⟩ := cget_15 cI cZ cP cF q_37 S113
                    have hi_119 : cin S113 15 0 := Or.inl ⟨by decide, rfl⟩
                    have hFc := zm_free hD hS hA
                    refine va_callv (va_runV (As := [.ref (q_37 28 y37_1), .int 3, .int x37_3]) (rest := []) ⟨hx, hb, hml, hown, hts⟩ (zd_X9_addGuards l D cI cZ cP cF q_37 S113 y37_1 3 x37_3 H.size _ h) (cwV 3 hts zg_zd_X9_forge_zd_X9_addGuards_47 rfl rfl rfl (by decide +kernel) ⟨Nat.le_of_ble_eq_true rfl, Nat.le_of_ble_eq_true rfl⟩) ⟨zCW, va_recv hK hP (ci := 9) (q0 := p_119) rfl hp_119, fun U hU hW => ⟨rfl, by rw [hU], by rw [hU]; exact hP, hE.warm hW, hD.weaken (fun _ _ _ _ => trivial)⟩⟩ rfl rfl hl.1 rfl (lv_room (Nat.le_of_ble_eq_true rfl)) dX9_forge_145 (cA_le hN)) hS (fun q _ h => hFc q h) hFc (fun S120 t H locs ht hvm h hB hz1 hk1 hS => ?_)
                    obtain ⟨hP, hD1, hN1⟩ := hB
                    rw [ht] at hP
                    have hD := hD1.weaken (fun k q _ hq => hFc q.1 hq)
                    have hN := cA_keep hN hN1
                    refine lv_iinc (v := x37_3 + 1) (lv' := [(3, .int (x37_3 + 1)), (0, .ref (q_37 15 0)), (1, .ref (q_37 24 y37_1)), (2, .int x37_2)]) hx hb dX9_forge_148 hl (k := 3) rfl rfl (by decide) rfl (fun ls hl => ?_)
                    refine lv_goto (tgt := 37) hx hb dX9_forge_151 (by decide) ?_
                    exact ih_37  q_37 S120 y37_1 x37_2 (x37_3 + 1) H locs _ _ _ h hP hD hS hN (lv_sub hl [1, 2, 3, 0] rfl)
                · have h := h.2 c_114
                  refine lv_aload_n hx hb dX9_forge_119 rfl (lv_at hl 0 rfl) ?_
                  obtain ⟨p_121, hp_121⟩ := cget_15 cI cZ cP cF q_37 S113
                  have hi_121 : cin S113 15 0 := Or.inl ⟨by decide, rfl⟩
                  refine va_get (D := D) (ci := 9) (v := .ref (q_37 7 0)) (C := RX9) (T := TX9) (N := 5) hx hb hts (fun _ h => List.mem_cons_of_mem _ (List.mem_append_left _ (List.mem_append_left _ (List.mem_append_left _ (List.mem_append_left _ (List.mem_append_right _ h)))))) hown hK hP p_121 hp_121 rfl 0 (by decide) (hts (.fieldLink RX9 25 "TemplateForge$Smith" "draft" "LTemplateForge$Draft;") (List.mem_of_getElem? (i := 1) rfl)) (fun _ h9 => h9) rfl dX9_forge_120 ?_
                  refine lv_aload_n hx hb dX9_forge_123 rfl (lv_at hl 1 rfl) ?_
                  refine lv_iload_n hx hb dX9_forge_124 rfl (lv_at hl 3 rfl) ?_
                  obtain ⟨p_122, hp_122⟩ := cget_7 cI cZ cP cF q_37 S113
                  have hi_122 : cin S113 7 0 := Or.inl ⟨by decide, rfl⟩
                  have hFc := zm_free hD hS hA
                  refine va_callv (va_runV (As := [.ref (q_37 24 y37_1), .int x37_3]) (rest := []) ⟨hx, hb, hml, hown, hts⟩ (zd_X3_addTemplate l D cI cZ cP cF q_37 S113 y37_1 x37_3 H.size _ h) (cwV 2 hts zg_zd_X9_forge_zd_X3_addTemplate_82 rfl rfl rfl (by decide +kernel) ⟨Nat.le_of_ble_eq_true rfl, Nat.le_of_ble_eq_true rfl⟩) ⟨zCW, va_recv hK hP (ci := 3) (q0 := p_122) rfl hp_122, fun U hU hW => ⟨rfl, by rw [hU], by rw [hU]; exact hP, hE.warm hW, hD.weaken (fun _ _ _ _ => trivial)⟩⟩ rfl rfl hl.1 rfl (lv_room (Nat.le_of_ble_eq_true rfl)) dX9_forge_125 (cA_le hN)) hS (fun q _ h => hFc q h) hFc (fun S123 t H locs ht hvm h hB hz1 hk1 hS => ?_)
                  obtain ⟨hP, hD1, hN1⟩ := hB
                  rw [ht] at hP
                  have hD := hD1.weaken (fun k q _ hq => hFc q.1 hq)
                  have hN := cA_keep hN hN1
                  refine lv_aload_n hx hb dX9_forge_128 rfl (lv_at hl 1 rfl) ?_
                  refine lv_iload_n hx hb dX9_forge_129 rfl (lv_at hl 3 rfl) ?_
                  have hi_124 := h.1
                  have h := h.2
                  obtain ⟨p_124, hp_124⟩ := cget_24 cI cZ cP cF q_37 S123 hi_124
                  refine vp_callSi (va_Run.run (va_runV (As := [.int x37_3]) (rest := []) ⟨hx, hb, hml, hown, hts⟩ (zd_X8_opAt l D cI cZ cP cF q_37 S123 y37_1 x37_3  _ h) (cwV 1 hts zg_zd_X9_forge_zd_X8_opAt_86 rfl rfl rfl (by decide +kernel) ⟨Nat.le_of_ble_eq_true rfl, Nat.le_of_ble_eq_true rfl⟩) ⟨zCR, va_recv hK hP (ci := 8) (q0 := p_124) rfl hp_124, fun U hU hW => ⟨rfl, by rw [hU]; exact hP, hE.warm hW⟩⟩ rfl rfl hl.1 rfl (lv_room (Nat.le_of_ble_eq_true rfl)) dX9_forge_130 (cA_le hN))) (fun r125 h => ?_)
                  refine lv_bipush (v := 11) hx hb dX9_forge_133 (by decide) ?_
                  refine lv_icmp_ne (tgt := 148) hx hb dX9_forge_135 (by decide) (fun c_126 => ?_) (fun c_126 => ?_)
                  · have h := h.1 c_126
                    refine lv_iinc (v := x37_3 + 1) (lv' := [(3, .int (x37_3 + 1)), (0, .ref (q_37 15 0)), (1, .ref (q_37 24 y37_1)), (2, .int x37_2)]) hx hb dX9_forge_148 hl (k := 3) rfl rfl (by decide) rfl (fun ls hl => ?_)
                    refine lv_goto (tgt := 37) hx hb dX9_forge_151 (by decide) ?_
                    exact ih_37  q_37 S123 y37_1 x37_2 (x37_3 + 1) H locs _ _ _ h hP hD hS hN (lv_sub hl [1, 2, 3, 0] rfl)
                  · have h := h.2 c_126
                    refine lv_aload_n hx hb dX9_forge_138 rfl (lv_at hl 0 rfl) ?_
                    refine lv_aload_n hx hb dX9_forge_139 rfl (lv_at hl 1 rfl) ?_
                    have hi_127 := h.1
                    have h := h.2
                    obtain ⟨p_127, hp_127⟩ := cget_24 cI cZ cP cF q_37 S123 hi_127
                    refine va_get (D := D) (ci := 8) (v := .ref (q_37 28 y37_1)) (C := RX8) (T := TX8) (N := 10) hx hb hts (fun _ h => List.mem_cons_of_mem _ (List.mem_append_left _ (List.mem_append_left _ (List.mem_append_right _ h)))) hown hK hP p_127 hp_127 rfl 3 (by decide) (hts (.fieldLink RX9 41 "TemplateForge$Program" "heat" "LTemplateForge$Heat;") (List.mem_of_getElem? (i := 43) rfl)) (fun _ h9 => h9) rfl dX9_forge_140 ?_
                    refine lv_iconst (v := 3) hx hb dX9_forge_143 (by decide) ?_
                    refine lv_iload_n hx hb dX9_forge_144 rfl (lv_at hl 3 rfl) ?_
                    obtain ⟨p_128, hp_128⟩ := cget_15 cI cZ cP cF q_37 S123
                    have hi_128 : cin S123 15 0 := Or.inl ⟨by decide, rfl⟩
                    have hFc := zm_free hD hS hA
                    refine va_callv (va_runV (As := [.ref (q_37 28 y37_1), .int 3, .int x37_3]) (rest := []) ⟨hx, hb, hml, hown, hts⟩ (zd_X9_addGuards l D cI cZ cP cF q_37 S123 y37_1 3 x37_3 H.size _ h) (cwV 3 hts zg_zd_X9_forge_zd_X9_addGuards_47 rfl rfl rfl (by decide +kernel) ⟨Nat.le_of_ble_eq_true rfl, Nat.le_of_ble_eq_true rfl⟩) ⟨zCW, va_recv hK hP (ci := 9) (q0 := p_128) rfl hp_128, fun U hU hW => ⟨rfl, by rw [hU], by rw [hU]; exact hP, hE.warm hW, hD.weaken (fun _ _ _ _ => trivial)⟩⟩ rfl rfl hl.1 rfl (lv_room (Nat.le_of_ble_eq_true rfl)) dX9_forge_145 (cA_le hN)) hS (fun q _ h => hFc q h) hFc (fun S129 t H locs ht hvm h hB hz1 hk1 hS => ?_)
                    obtain ⟨hP, hD1, hN1⟩ := hB
                    rw [ht] at hP
                    have hD := hD1.weaken (fun k q _ hq => hFc q.1 hq)
                    have hN := cA_keep hN hN1
                    refine lv_iinc (v := x37_3 + 1) (lv' := [(3, .int (x37_3 + 1)), (0, .ref (q_37 15 0)), (1, .ref (q_37 24 y37_1)), (2, .int x37_2)]) hx hb dX9_forge_148 hl (k := 3) rfl rfl (by decide) rfl (fun ls hl => ?_)
                    refine lv_goto (tgt := 37) hx hb dX9_forge_151 (by decide) ?_
                    exact ih_37  q_37 S129 y37_1 x37_2 (x37_3 + 1) H locs _ _ _ h hP hD hS hN (lv_sub hl [1, 2, 3, 0] rfl)
              · have h := h.2 c_108
                refine lv_iload_n hx hb dX9_forge_69 rfl (lv_at hl 3 rfl) ?_
                refine lv_if_le (tgt := 94) hx hb dX9_forge_70 (by decide) (fun c_130 => ?_) (fun c_130 => ?_)
                · have h := h.1 c_130
                  refine lv_aload_n hx hb dX9_forge_94 rfl (lv_at hl 0 rfl) ?_
                  refine lv_aload_n hx hb dX9_forge_95 rfl (lv_at hl 1 rfl) ?_
                  have hi_131 := h.1
                  have h := h.2
                  obtain ⟨p_131, hp_131⟩ := cget_24 cI cZ cP cF q_37 S_37 hi_131
                  refine va_get (D := D) (ci := 8) (v := .ref (q_37 28 y37_1)) (C := RX8) (T := TX8) (N := 10) hx hb hts (fun _ h => List.mem_cons_of_mem _ (List.mem_append_left _ (List.mem_append_left _ (List.mem_append_right _ h)))) hown hK hP p_131 hp_131 rfl 3 (by decide) (hts (.fieldLink RX9 41 "TemplateForge$Program" "heat" "LTemplateForge$Heat;") (List.mem_of_getElem? (i := 43) rfl)) (fun _ h9 => h9) rfl dX9_forge_96 ?_
                  obtain ⟨p_132, hp_132⟩ := cget_15 cI cZ cP cF q_37 S_37
                  have hi_132 : cin S_37 15 0 := Or.inl ⟨by decide, rfl⟩
                  have hFc := zm_free hD hS hA
                  refine va_callv (va_runV (As := [.ref (q_37 28 y37_1)]) (rest := []) ⟨hx, hb, hml, hown, hts⟩ (zd_X9_knowArgsAlone l D cI cZ cP cF q_37 S_37 y37_1 H.size _ h) (cwV 1 hts zg_zd_X9_forge_zd_X9_knowArgsAlone_70 rfl rfl rfl (by decide +kernel) ⟨Nat.le_of_ble_eq_true rfl, Nat.le_of_ble_eq_true rfl⟩) ⟨zCW, va_recv hK hP (ci := 9) (q0 := p_132) rfl hp_132, fun U hU hW => ⟨rfl, by rw [hU], by rw [hU]; exact hP, hE.warm hW, hD.weaken (fun _ _ _ _ => trivial)⟩⟩ rfl rfl hl.1 rfl (lv_room (Nat.le_of_ble_eq_true rfl)) dX9_forge_99 (cA_le hN)) hS (fun q _ h => hFc q h) hFc (fun S133 t H locs ht hvm h hB hz1 hk1 hS => ?_)
                  obtain ⟨hP, hD1, hN1⟩ := hB
                  rw [ht] at hP
                  have hD := hD1.weaken (fun k q _ hq => hFc q.1 hq)
                  have hN := cA_keep hN hN1
                  refine lv_aload_n hx hb dX9_forge_102 rfl (lv_at hl 0 rfl) ?_
                  obtain ⟨p_134, hp_134⟩ := cget_15 cI cZ cP cF q_37 S133
                  have hi_134 : cin S133 15 0 := Or.inl ⟨by decide, rfl⟩
                  refine va_get (D := D) (ci := 9) (v := .ref (q_37 7 0)) (C := RX9) (T := TX9) (N := 5) hx hb hts (fun _ h => List.mem_cons_of_mem _ (List.mem_append_left _ (List.mem_append_left _ (List.mem_append_left _ (List.mem_append_left _ (List.mem_append_right _ h)))))) hown hK hP p_134 hp_134 rfl 0 (by decide) (hts (.fieldLink RX9 25 "TemplateForge$Smith" "draft" "LTemplateForge$Draft;") (List.mem_of_getElem? (i := 1) rfl)) (fun _ h9 => h9) rfl dX9_forge_103 ?_
                  refine lv_iload_n hx hb dX9_forge_106 rfl (lv_at hl 3 rfl) ?_
                  obtain ⟨p_135, hp_135⟩ := cget_7 cI cZ cP cF q_37 S133
                  have hi_135 : cin S133 7 0 := Or.inl ⟨by decide, rfl⟩
                  have hFc := zm_free hD hS hA
                  refine va_callv (va_runV (As := [.int x37_3]) (rest := []) ⟨hx, hb, hml, hown, hts⟩ (zd_X3_begin l D cI cZ cP cF q_37 S133 x37_3 H.size _ h) (cwV 1 hts zg_zd_X9_forge_zd_X3_begin_74 rfl rfl rfl (by decide +kernel) ⟨Nat.le_of_ble_eq_true rfl, Nat.le_of_ble_eq_true rfl⟩) ⟨zCW, va_recv hK hP (ci := 3) (q0 := p_135) rfl hp_135, fun U hU hW => ⟨rfl, by rw [hU], by rw [hU]; exact hP, hE.warm hW, hD.weaken (fun _ _ _ _ => trivial)⟩⟩ rfl rfl hl.1 rfl (lv_room (Nat.le_of_ble_eq_true rfl)) dX9_forge_107 (cA_le hN)) hS (fun q _ h => hFc q h) hFc (fun S136 t H locs ht hvm h hB hz1 hk1 hS => ?_)
                  obtain ⟨hP, hD1, hN1⟩ := hB
                  rw [ht] at hP
                  have hD := hD1.weaken (fun k q _ hq => hFc q.1 hq)
                  have hN := cA_keep hN hN1
                  refine lv_aload_n hx hb dX9_forge_110 rfl (lv_at hl 0 rfl) ?_
                  refine lv_aload_n hx hb dX9_forge_111 rfl (lv_at hl 1 rfl) ?_
                  refine lv_iload_n hx hb dX9_forge_112 rfl (lv_at hl 3 rfl) ?_
                  obtain ⟨p_137, hp_137⟩ := cget_15 cI cZ cP cF q_37 S136
                  have hi_137 : cin S136 15 0 := Or.inl ⟨by decide, rfl⟩
                  have hFc := zm_free hD hS hA
                  refine va_calli (va_runV (As := [.ref (q_37 24 y37_1), .int x37_3]) (rest := []) ⟨hx, hb, hml, hown, hts⟩ (zd_X9_wantsTemplate l D cI cZ cP cF q_37 S136 y37_1 x37_3 H.size _ h) (cwV 2 hts zg_zd_X9_forge_zd_X9_wantsTemplate_78 rfl rfl rfl (by decide +kernel) ⟨Nat.le_of_ble_eq_true rfl, Nat.le_of_ble_eq_true rfl⟩) ⟨zCW, va_recv hK hP (ci := 9) (q0 := p_137) rfl hp_137, fun U hU hW => ⟨rfl, by rw [hU], by rw [hU]; exact hP, hE.warm hW, hD.weaken (fun _ _ _ _ => trivial)⟩⟩ rfl rfl hl.1 rfl (lv_room (Nat.le_of_ble_eq_true rfl)) dX9_forge_113 (cA_le hN)) hS (fun q _ h => hFc q h) hFc (fun r138 S138 t H locs ht hvm h hB hz1 hk1 hS => ?_)
                  obtain ⟨hP, hD1, hN1⟩ := hB
                  rw [ht] at hP
                  have hD := hD1.weaken (fun k q _ hq => hFc q.1 hq)
                  have hN := cA_keep hN hN1
                  refine lv_if_eq (tgt := 128) hx hb dX9_forge_116 (by decide) (fun c_139 => ?_) (fun c_139 => ?_)
                  · have h := h.1 c_139
                    refine lv_aload_n hx hb dX9_forge_128 rfl (lv_at hl 1 rfl) ?_
                    refine lv_iload_n hx hb dX9_forge_129 rfl (lv_at hl 3 rfl) ?_
                    have hi_140 := h.1
                    have h := h.2
                    obtain ⟨p_140, hp_140⟩ := cget_24 cI cZ cP cF q_37 S138 hi_140
                    refine vp_callSi (va_Run.run (va_runV (As := [.int x37_3]) (rest := []) ⟨hx, hb, hml, hown, hts⟩ (zd_X8_opAt l D cI cZ cP cF q_37 S138 y37_1 x37_3  _ h) (cwV 1 hts zg_zd_X9_forge_zd_X8_opAt_86 rfl rfl rfl (by decide +kernel) ⟨Nat.le_of_ble_eq_true rfl, Nat.le_of_ble_eq_true rfl⟩) ⟨zCR, va_recv hK hP (ci := 8) (q0 := p_140) rfl hp_140, fun U hU hW => ⟨rfl, by rw [hU]; exact hP, hE.warm hW⟩⟩ rfl rfl hl.1 rfl (lv_room (Nat.le_of_ble_eq_true rfl)) dX9_forge_130 (cA_le hN))) (fun r141 h => ?_)
                    refine lv_bipush (v := 11) hx hb dX9_forge_133 (by decide) ?_
                    refine lv_icmp_ne (tgt := 148) hx hb dX9_forge_135 (by decide) (fun c_142 => ?_) (fun c_142 => ?_)
                    · have h := h.1 c_142
                      refine lv_iinc (v := x37_3 + 1) (lv' := [(3, .int (x37_3 + 1)), (0, .ref (q_37 15 0)), (1, .ref (q_37 24 y37_1)), (2, .int x37_2)]) hx hb dX9_forge_148 hl (k := 3) rfl rfl (by decide) rfl (fun ls hl => ?_)
                      refine lv_goto (tgt := 37) hx hb dX9_forge_151 (by decide) ?_
                      exact ih_37  q_37 S138 y37_1 x37_2 (x37_3 + 1) H locs _ _ _ h hP hD hS hN (lv_sub hl [1, 2, 3, 0] rfl)
                    · have h := h.2 c_142
                      refine lv_aload_n hx hb dX9_forge_138 rfl (lv_at hl 0 rfl) ?_
                      refine lv_aload_n hx hb dX9_forge_139 rfl (lv_at hl 1 rfl) ?_
                      have hi_143 := h.1
                      have h := h.2
                      obtain ⟨p_143, hp_143⟩ := cget_24 cI cZ cP cF q_37 S138 hi_143
                      refine va_get (D := D) (ci := 8) (v := .ref (q_37 28 y37_1)) (C := RX8) (T := TX8) (N := 10) hx hb hts (fun _ h => List.mem_cons_of_mem _ (List.mem_append_left _ (List.mem_append_left _ (List.mem_append_right _ h)))) hown hK hP p_143 hp_143 rfl 3 (by decide) (hts (.fieldLink RX9 41 "TemplateForge$Program" "heat" "LTemplateForge$Heat;") (List.mem_of_getElem? (i := 43) rfl)) (fun _ h9 => h9) rfl dX9_forge_140 ?_
                      refine lv_iconst (v := 3) hx hb dX9_forge_143 (by decide) ?_
                      refine lv_iload_n hx hb dX9_forge_144 rfl (lv_at hl 3 rfl) ?_
                      obtain ⟨p_144, hp_144⟩ := cget_15 cI cZ cP cF q_37 S138
                      have hi_144 : cin S138 15 0 := Or.inl ⟨by decide, rfl⟩
                      have hFc := zm_free hD hS hA
                      refine va_callv (va_runV (As := [.ref (q_37 28 y37_1), .int 3, .int x37_3]) (rest := []) ⟨hx, hb, hml, hown, hts⟩ (zd_X9_addGuards l D cI cZ cP cF q_37 S138 y37_1 3 x37_3 H.size _ h) (cwV 3 hts zg_zd_X9_forge_zd_X9_addGuards_47 rfl rfl rfl (by decide +kernel) ⟨Nat.le_of_ble_eq_true rfl, Nat.le_of_ble_eq_true rfl⟩) ⟨zCW, va_recv hK hP (ci := 9) (q0 := p_144) rfl hp_144, fun U hU hW => ⟨rfl, by rw [hU], by rw [hU]; exact hP, hE.warm hW, hD.weaken (fun _ _ _ _ => trivial)⟩⟩ rfl rfl hl.1 rfl (lv_room (Nat.le_of_ble_eq_true rfl)) dX9_forge_145 (cA_le hN)) hS (fun q _ h => hFc q h) hFc (fun S145 t H locs ht hvm h hB hz1 hk1 hS => ?_)
                      obtain ⟨hP, hD1, hN1⟩ := hB
                      rw [ht] at hP
                      have hD := hD1.weaken (fun k q _ hq => hFc q.1 hq)
                      have hN := cA_keep hN hN1
                      refine lv_iinc (v := x37_3 + 1) (lv' := [(3, .int (x37_3 + 1)), (0, .ref (q_37 15 0)), (1, .ref (q_37 24 y37_1)), (2, .int x37_2)]) hx hb dX9_forge_148 hl (k := 3) rfl rfl (by decide) rfl (fun ls hl => ?_)
                      refine lv_goto (tgt := 37) hx hb dX9_forge_151 (by decide) ?_
                      exact ih_37  q_37 S145 y37_1 x37_2 (x37_3 + 1) H locs _ _ _ h hP hD hS hN (lv_sub hl [1, 2, 3, 0] rfl)
                  · have h := h.2 c_139
                    refine lv_aload_n hx hb dX9_forge_119 rfl (lv_at hl 0 rfl) ?_
                    obtain ⟨p_146, hp_146⟩ := cget_15 cI cZ cP cF q_37 S138
                    have hi_146 : cin S138 15 0 := Or.inl ⟨by decide, rfl⟩
                    refine va_get (D := D) (ci := 9) (v := .ref (q_37 7 0)) (C := RX9) (T := TX9) (N := 5) hx hb hts (fun _ h => List.mem_cons_of_mem _ (List.mem_append_left _ (List.mem_append_left _ (List.mem_append_left _ (List.mem_append_left _ (List.mem_append_right _ h)))))) hown hK hP p_146 hp_146 rfl 0 (by decide) (hts (.fieldLink RX9 25 "TemplateForge$Smith" "draft" "LTemplateForge$Draft;") (List.mem_of_getElem? (i := 1) rfl)) (fun _ h9 => h9) rfl dX9_forge_120 ?_
                    refine lv_aload_n hx hb dX9_forge_123 rfl (lv_at hl 1 rfl) ?_
                    refine lv_iload_n hx hb dX9_forge_124 rfl (lv_at hl 3 rfl) ?_
                    obtain ⟨p_147, hp_147⟩ := cget_7 cI cZ cP cF q_37 S138
                    have hi_147 : cin S138 7 0 := Or.inl ⟨by decide, rfl⟩
                    have hFc := zm_free hD hS hA
                    refine va_callv (va_runV (As := [.ref (q_37 24 y37_1), .int x37_3]) (rest := []) ⟨hx, hb, hml, hown, hts⟩ (zd_X3_addTemplate l D cI cZ cP cF q_37 S138 y37_1 x37_3 H.size _ h) (cwV 2 hts zg_zd_X9_forge_zd_X3_addTemplate_82 rfl rfl rfl (by decide +kernel) ⟨Nat.le_of_ble_eq_true rfl, Nat.le_of_ble_eq_true rfl⟩) ⟨zCW, va_recv hK hP (ci := 3) (q0 := p_147) rfl hp_147, fun U hU hW => ⟨rfl, by rw [hU], by rw [hU]; exact hP, hE.warm hW, hD.weaken (fun _ _ _ _ => trivial)⟩⟩ rfl rfl hl.1 rfl (lv_room (Nat.le_of_ble_eq_true rfl)) dX9_forge_125 (cA_le hN)) hS (fun q _ h => hFc q h) hFc (fun S148 t H locs ht hvm h hB hz1 hk1 hS => ?_)
                    obtain ⟨hP, hD1, hN1⟩ := hB
                    rw [ht] at hP
                    have hD := hD1.weaken (fun k q _ hq => hFc q.1 hq)
                    have hN := cA_keep hN hN1
                    refine lv_aload_n hx hb dX9_forge_128 rfl (lv_at hl 1 rfl) ?_
                    refine lv_iload_n hx hb dX9_forge_129 rfl (lv_at hl 3 rfl) ?_
                    have hi_149 := h.1
                    have h := h.2
                    obtain ⟨p_149, hp_149⟩ := cget_24 cI cZ cP cF q_37 S148 hi_149
                    refine vp_callSi (va_Run.run (va_runV (As := [.int x37_3]) (rest := []) ⟨hx, hb, hml, hown, hts⟩ (zd_X8_opAt l D cI cZ cP cF q_37 S148 y37_1 x37_3  _ h) (cwV 1 hts zg_zd_X9_forge_zd_X8_opAt_86 rfl rfl rfl (by decide +kernel) ⟨Nat.le_of_ble_eq_true rfl, Nat.le_of_ble_eq_true rfl⟩) ⟨zCR, va_recv hK hP (ci := 8) (q0 := p_149) rfl hp_149, fun U hU hW => ⟨rfl, by rw [hU]; exact hP, hE.warm hW⟩⟩ rfl rfl hl.1 rfl (lv_room (Nat.le_of_ble_eq_true rfl)) dX9_forge_130 (cA_le hN))) (fun r150 h => ?_)
                    refine lv_bipush (v := 11) hx hb dX9_forge_133 (by decide) ?_
                    refine lv_icmp_ne (tgt := 148) hx hb dX9_forge_135 (by decide) (fun c_151 => ?_) (fun c_151 => ?_)
                    · have h := h.1 c_151
                      refine lv_iinc (v := x37_3 + 1) (lv' := [(3, .int (x37_3 + 1)), (0, .ref (q_37 15 0)), (1, .ref (q_37 24 y37_1)), (2, .int x37_2)]) hx hb dX9_forge_148 hl (k := 3) rfl rfl (by decide) rfl (fun ls hl => ?_)
                      refine lv_goto (tgt := 37) hx hb dX9_forge_151 (by decide) ?_
                      exact ih_37  q_37 S148 y37_1 x37_2 (x37_3 + 1) H locs _ _ _ h hP hD hS hN (lv_sub hl [1, 2, 3, 0] rfl)
                    · have h := h.2 c_151
                      refine lv_aload_n hx hb dX9_forge_138 rfl (lv_at hl 0 rfl) ?_
                      refine lv_aload_n hx hb dX9_forge_139 rfl (lv_at hl 1 rfl) ?_
                      have hi_152 := h.1
                      have h := h.2
                      obtain ⟨p_152, hp_152⟩ := cget_24 cI cZ cP cF q_37 S148 hi_152
                      refine va_get (D := D) (ci := 8) (v := .ref (q_37 28 y37_1)) (C := RX8) (T := TX8) (N := 10) hx hb hts (fun _ h => List.mem_cons_of_mem _ (List.mem_append_left _ (List.mem_append_left _ (List.mem_append_right _ h)))) hown hK hP p_152 hp_152 rfl 3 (by decide) (hts (.fieldLink RX9 41 "TemplateForge$Program" "heat" "LTemplateForge$Heat;") (List.mem_of_getElem? (i := 43) rfl)) (fun _ h9 => h9) rfl dX9_forge_140 ?_
                      refine lv_iconst (v := 3) hx hb dX9_forge_143 (by decide) ?_
                      refine lv_iload_n hx hb dX9_forge_144 rfl (lv_at hl 3 rfl) ?_
                      obtain ⟨p_153, hp_153⟩ := cget_15 cI cZ cP cF q_37 S148
                      have hi_153 : cin S148 15 0 := Or.inl ⟨by decide, rfl⟩
                      have hFc := zm_free hD hS hA
                      refine va_callv (va_runV (As := [.ref (q_37 28 y37_1), .int 3, .int x37_3]) (rest := []) ⟨hx, hb, hml, hown, hts⟩ (zd_X9_addGuards l D cI cZ cP cF q_37 S148 y37_1 3 x37_3 H.size _ h) (cwV 3 hts zg_zd_X9_forge_zd_X9_addGuards_47 rfl rfl rfl (by decide +kernel) ⟨Nat.le_of_ble_eq_true rfl, Nat.le_of_ble_eq_true rfl⟩) ⟨zCW, va_recv hK hP (ci := 9) (q0 := p_153) rfl hp_153, fun U hU hW => ⟨rfl, by rw [hU], by rw [hU]; exact hP, hE.warm hW, hD.weaken (fun _ _ _ _ => trivial)⟩⟩ rfl rfl hl.1 rfl (lv_room (Nat.le_of_ble_eq_true rfl)) dX9_forge_145 (cA_le hN)) hS (fun q _ h => hFc q h) hFc (fun S154 t H locs ht hvm h hB hz1 hk1 hS => ?_)
                      obtain ⟨hP, hD1, hN1⟩ := hB
                      rw [ht] at hP
                      have hD := hD1.weaken (fun k q _ hq => hFc q.1 hq)
                      have hN := cA_keep hN hN1
                      refine lv_iinc (v := x37_3 + 1) (lv' := [(3, .int (x37_3 + 1)), (0, .ref (q_37 15 0)), (1, .ref (q_37 24 y37_1)), (2, .int x37_2)]) hx hb dX9_forge_148 hl (k := 3) rfl rfl (by decide) rfl (fun ls hl => ?_)
                      refine lv_goto (tgt := 37) hx hb dX9_forge_151 (by decide) ?_
                      exact ih_37  q_37 S154 y37_1 x37_2 (x37_3 + 1) H locs _ _ _ h hP hD hS hN (lv_sub hl [1, 2, 3, 0] rfl)
                · have h := h.2 c_130
                  refine lv_aload_n hx hb dX9_forge_73 rfl (lv_at hl 1 rfl) ?_
                  refine lv_iload_n hx hb dX9_forge_74 rfl (lv_at hl 3 rfl) ?_
                  refine lv_iconst (v := 1) hx hb dX9_forge_75 (by decide) ?_
                  refine lv_isub hx hb dX9_forge_76 ?_
                  have hi_155 := h.1
                  have h := h.2
                  obtain ⟨p_155, hp_155⟩ := cget_24 cI cZ cP cF q_37 S_37 hi_155
                  refine vp_callSi (va_Run.run (va_runV (As := [.int (x37_3 - 1)]) (rest := []) ⟨hx, hb, hml, hown, hts⟩ (zd_X8_goesOnAt l D cI cZ cP cF q_37 S_37 y37_1 (x37_3 - 1)  _ h) (cwV 1 hts zg_zd_X9_forge_zd_X8_goesOnAt_63 rfl rfl rfl (by decide +kernel) ⟨Nat.le_of_ble_eq_true rfl, Nat.le_of_ble_eq_true rfl⟩) ⟨zCR, va_recv hK hP (ci := 8) (q0 := p_155) rfl hp_155, fun U hU hW => ⟨rfl, by rw [hU]; exact hP, hE.warm hW⟩⟩ rfl rfl hl.1 rfl (lv_room (Nat.le_of_ble_eq_true rfl)) dX9_forge_77 (cA_le hN))) (fun r156 h => ?_)
                  refine lv_if_eq (tgt := 94) hx hb dX9_forge_80 (by decide) (fun c_157 => ?_) (fun c_157 => ?_)
                  · have h := h.1 c_157
                    refine lv_aload_n hx hb dX9_forge_94 rfl (lv_at hl 0 rfl) ?_
                    refine lv_aload_n hx hb dX9_forge_95 rfl (lv_at hl 1 rfl) ?_
                    have hi_158 := h.1
                    have h := h.2
                    obtain ⟨p_158, hp_158⟩ := cget_24 cI cZ cP cF q_37 S_37 hi_158
                    refine va_get (D := D) (ci := 8) (v := .ref (q_37 28 y37_1)) (C := RX8) (T := TX8) (N := 10) hx hb hts (fun _ h => List.mem_cons_of_mem _ (List.mem_append_left _ (List.mem_append_left _ (List.mem_append_right _ h)))) hown hK hP p_158 hp_158 rfl 3 (by decide) (hts (.fieldLink RX9 41 "TemplateForge$Program" "heat" "LTemplateForge$Heat;") (List.mem_of_getElem? (i := 43) rfl)) (fun _ h9 => h9) rfl dX9_forge_96 ?_
                    obtain ⟨p_159, hp_159⟩ := cget_15 cI cZ cP cF q_37 S_37
                    have hi_159 : cin S_37 15 0 := Or.inl ⟨by decide, rfl⟩
                    have hFc := zm_free hD hS hA
                    refine va_callv (va_runV (As := [.ref (q_37 28 y37_1)]) (rest := []) ⟨hx, hb, hml, hown, hts⟩ (zd_X9_knowArgsAlone l D cI cZ cP cF q_37 S_37 y37_1 H.size _ h) (cwV 1 hts zg_zd_X9_forge_zd_X9_knowArgsAlone_70 rfl rfl rfl (by decide +kernel) ⟨Nat.le_of_ble_eq_true rfl, Nat.le_of_ble_eq_true rfl⟩) ⟨zCW, va_recv hK hP (ci := 9) (q0 := p_159) rfl hp_159, fun U hU hW => ⟨rfl, by rw [hU], by rw [hU]; exact hP, hE.warm hW, hD.weaken (fun _ _ _ _ => trivial)⟩⟩ rfl rfl hl.1 rfl (lv_room (Nat.le_of_ble_eq_true rfl)) dX9_forge_99 (cA_le hN)) hS (fun q _ h => hFc q h) hFc (fun S160 t H locs ht hvm h hB hz1 hk1 hS => ?_)
                    obtain ⟨hP, hD1, hN1⟩ := hB
                    rw [ht] at hP
                    have hD := hD1.weaken (fun k q _ hq => hFc q.1 hq)
                    have hN := cA_keep hN hN1
                    refine lv_aload_n hx hb dX9_forge_102 rfl (lv_at hl 0 rfl) ?_
                    obtain ⟨p_161, hp_161⟩ := cget_15 cI cZ cP cF q_37 S160
                    have hi_161 : cin S160 15 0 := Or.inl ⟨by decide, rfl⟩
                    refine va_get (D := D) (ci := 9) (v := .ref (q_37 7 0)) (C := RX9) (T := TX9) (N := 5) hx hb hts (fun _ h => List.mem_cons_of_mem _ (List.mem_append_left _ (List.mem_append_left _ (List.mem_append_left _ (List.mem_append_left _ (List.mem_append_right _ h)))))) hown hK hP p_161 hp_161 rfl 0 (by decide) (hts (.fieldLink RX9 25 "TemplateForge$Smith" "draft" "LTemplateForge$Draft;") (List.mem_of_getElem? (i := 1) rfl)) (fun _ h9 => h9) rfl dX9_forge_103 ?_
                    refine lv_iload_n hx hb dX9_forge_106 rfl (lv_at hl 3 rfl) ?_
                    obtain ⟨p_162, hp_162⟩ := cget_7 cI cZ cP cF q_37 S160
                    have hi_162 : cin S160 7 0 := Or.inl ⟨by decide, rfl⟩
                    have hFc := zm_free hD hS hA
                    refine va_callv (va_runV (As := [.int x37_3]) (rest := []) ⟨hx, hb, hml, hown, hts⟩ (zd_X3_begin l D cI cZ cP cF q_37 S160 x37_3 H.size _ h) (cwV 1 hts zg_zd_X9_forge_zd_X3_begin_74 rfl rfl rfl (by decide +kernel) ⟨Nat.le_of_ble_eq_true rfl, Nat.le_of_ble_eq_true rfl⟩) ⟨zCW, va_recv hK hP (ci := 3) (q0 := p_162) rfl hp_162, fun U hU hW => ⟨rfl, by rw [hU], by rw [hU]; exact hP, hE.warm hW, hD.weaken (fun _ _ _ _ => trivial)⟩⟩ rfl rfl hl.1 rfl (lv_room (Nat.le_of_ble_eq_true rfl)) dX9_forge_107 (cA_le hN)) hS (fun q _ h => hFc q h) hFc (fun S163 t H locs ht hvm h hB hz1 hk1 hS => ?_)
                    obtain ⟨hP, hD1, hN1⟩ := hB
                    rw [ht] at hP
                    have hD := hD1.weaken (fun k q _ hq => hFc q.1 hq)
                    have hN := cA_keep hN hN1
                    refine lv_aload_n hx hb dX9_forge_110 rfl (lv_at hl 0 rfl) ?_
                    refine lv_aload_n hx hb dX9_forge_111 rfl (lv_at hl 1 rfl) ?_
                    refine lv_iload_n hx hb dX9_forge_112 rfl (lv_at hl 3 rfl) ?_
                    obtain ⟨p_164, hp_164⟩ := cget_15 cI cZ cP cF q_37 S163
                    have hi_164 : cin S163 15 0 := Or.inl ⟨by decide, rfl⟩
                    have hFc := zm_free hD hS hA
                    refine va_calli (va_runV (As := [.ref (q_37 24 y37_1), .int x37_3]) (rest := []) ⟨hx, hb, hml, hown, hts⟩ (zd_X9_wantsTemplate l D cI cZ cP cF q_37 S163 y37_1 x37_3 H.size _ h) (cwV 2 hts zg_zd_X9_forge_zd_X9_wantsTemplate_78 rfl rfl rfl (by decide +kernel) ⟨Nat.le_of_ble_eq_true rfl, Nat.le_of_ble_eq_true rfl⟩) ⟨zCW, va_recv hK hP (ci := 9) (q0 := p_164) rfl hp_164, fun U hU hW => ⟨rfl, by rw [hU], by rw [hU]; exact hP, hE.warm hW, hD.weaken (fun _ _ _ _ => trivial)⟩⟩ rfl rfl hl.1 rfl (lv_room (Nat.le_of_ble_eq_true rfl)) dX9_forge_113 (cA_le hN)) hS (fun q _ h => hFc q h) hFc (fun r165 S165 t H locs ht hvm h hB hz1 hk1 hS => ?_)
                    obtain ⟨hP, hD1, hN1⟩ := hB
                    rw [ht] at hP
                    have hD := hD1.weaken (fun k q _ hq => hFc q.1 hq)
                    have hN := cA_keep hN hN1
                    refine lv_if_eq (tgt := 128) hx hb dX9_forge_116 (by decide) (fun c_166 => ?_) (fun c_166 => ?_)
                    · have h := h.1 c_166
                      refine lv_aload_n hx hb dX9_forge_128 rfl (lv_at hl 1 rfl) ?_
                      refine lv_iload_n hx hb dX9_forge_129 rfl (lv_at hl 3 rfl) ?_
                      have hi_167 := h.1
                      have h := h.2
                      obtain ⟨p_167, hp_167⟩ := cget_24 cI cZ cP cF q_37 S165 hi_167
                      refine vp_callSi (va_Run.run (va_runV (As := [.int x37_3]) (rest := []) ⟨hx, hb, hml, hown, hts⟩ (zd_X8_opAt l D cI cZ cP cF q_37 S165 y37_1 x37_3  _ h) (cwV 1 hts zg_zd_X9_forge_zd_X8_opAt_86 rfl rfl rfl (by decide +kernel) ⟨Nat.le_of_ble_eq_true rfl, Nat.le_of_ble_eq_true rfl⟩) ⟨zCR, va_recv hK hP (ci := 8) (q0 := p_167) rfl hp_167, fun U hU hW => ⟨rfl, by rw [hU]; exact hP, hE.warm hW⟩⟩ rfl rfl hl.1 rfl (lv_room (Nat.le_of_ble_eq_true rfl)) dX9_forge_130 (cA_le hN))) (fun r168 h => ?_)
                      refine lv_bipush (v := 11) hx hb dX9_forge_133 (by decide) ?_
                      refine lv_icmp_ne (tgt := 148) hx hb dX9_forge_135 (by decide) (fun c_169 => ?_) (fun c_169 => ?_)
                      · have h := h.1 c_169
                        refine lv_iinc (v := x37_3 + 1) (lv' := [(3, .int (x37_3 + 1)), (0, .ref (q_37 15 0)), (1, .ref (q_37 24 y37_1)), (2, .int x37_2)]) hx hb dX9_forge_148 hl (k := 3) rfl rfl (by decide) rfl (fun ls hl => ?_)
                        refine lv_goto (tgt := 37) hx hb dX9_forge_151 (by decide) ?_
                        exact ih_37  q_37 S165 y37_1 x37_2 (x37_3 + 1) H locs _ _ _ h hP hD hS hN (lv_sub hl [1, 2, 3, 0] rfl)
                      · have h := h.2 c_169
                        refine lv_aload_n hx hb dX9_forge_138 rfl (lv_at hl 0 rfl) ?_
                        refine lv_aload_n hx hb dX9_forge_139 rfl (lv_at hl 1 rfl) ?_
                        have hi_170 := h.1
                        have h := h.2
                        obtain ⟨p_170, hp_170⟩ := cget_24 cI cZ cP cF q_37 S165 hi_170
                        refine va_get (D := D) (ci := 8) (v := .ref (q_37 28 y37_1)) (C := RX8) (T := TX8) (N := 10) hx hb hts (fun _ h => List.mem_cons_of_mem _ (List.mem_append_left _ (List.mem_append_left _ (List.mem_append_right _ h)))) hown hK hP p_170 hp_170 rfl 3 (by decide) (hts (.fieldLink RX9 41 "TemplateForge$Program" "heat" "LTemplateForge$Heat;") (List.mem_of_getElem? (i := 43) rfl)) (fun _ h9 => h9) rfl dX9_forge_140 ?_
                        refine lv_iconst (v := 3) hx hb dX9_forge_143 (by decide) ?_
                        refine lv_iload_n hx hb dX9_forge_144 rfl (lv_at hl 3 rfl) ?_
                        obtain ⟨p_171, hp_171⟩ := cget_15 cI cZ cP cF q_37 S165
                        have hi_171 : cin S165 15 0 := Or.inl ⟨by decide, rfl⟩
                        have hFc := zm_free hD hS hA
                        refine va_callv (va_runV (As := [.ref (q_37 28 y37_1), .int 3, .int x37_3]) (rest := []) ⟨hx, hb, hml, hown, hts⟩ (zd_X9_addGuards l D cI cZ cP cF q_37 S165 y37_1 3 x37_3 H.size _ h) (cwV 3 hts zg_zd_X9_forge_zd_X9_addGuards_47 rfl rfl rfl (by decide +kernel) ⟨Nat.le_of_ble_eq_true rfl, Nat.le_of_ble_eq_true rfl⟩) ⟨zCW, va_recv hK hP (ci := 9) (q0 := p_171) rfl hp_171, fun U hU hW => ⟨rfl, by rw [hU], by rw [hU]; exact hP, hE.warm hW, hD.weaken (fun _ _ _ _ => trivial)⟩⟩ rfl rfl hl.1 rfl (lv_room (Nat.le_of_ble_eq_true rfl)) dX9_forge_145 (cA_le hN)) hS (fun q _ h => hFc q h) hFc (fun S172 t H locs ht hvm h hB hz1 hk1 hS => ?_)
                        obtain ⟨hP, hD1, hN1⟩ := hB
                        rw [ht] at hP
                        have hD := hD1.weaken (fun k q _ hq => hFc q.1 hq)
                        have hN := cA_keep hN hN1
                        refine lv_iinc (v := x37_3 + 1) (lv' := [(3, .int (x37_3 + 1)), (0, .ref (q_37 15 0)), (1, .ref (q_37 24 y37_1)), (2, .int x37_2)]) hx hb dX9_forge_148 hl (k := 3) rfl rfl (by decide) rfl (fun ls hl => ?_)
                        refine lv_goto (tgt := 37) hx hb dX9_forge_151 (by decide) ?_
                        exact ih_37  q_37 S172 y37_1 x37_2 (x37_3 + 1) H locs _ _ _ h hP hD hS hN (lv_sub hl [1, 2, 3, 0] rfl)
                    · have h := h.2 c_166
                      refine lv_aload_n hx hb dX9_forge_119 rfl (lv_at hl 0 rfl) ?_
                      obtain ⟨p_173, hp_173⟩ := cget_15 cI cZ cP cF q_37 S165
                      have hi_173 : cin S165 15 0 := Or.inl ⟨by decide, rfl⟩
                      refine va_get (D := D) (ci := 9) (v := .ref (q_37 7 0)) (C := RX9) (T := TX9) (N := 5) hx hb hts (fun _ h => List.mem_cons_of_mem _ (List.mem_append_left _ (List.mem_append_left _ (List.mem_append_left _ (List.mem_append_left _ (List.mem_append_right _ h)))))) hown hK hP p_173 hp_173 rfl 0 (by decide) (hts (.fieldLink RX9 25 "TemplateForge$Smith" "draft" "LTemplateForge$Draft;") (List.mem_of_getElem? (i := 1) rfl)) (fun _ h9 => h9) rfl dX9_forge_120 ?_
                      refine lv_aload_n hx hb dX9_forge_123 rfl (lv_at hl 1 rfl) ?_
                      refine lv_iload_n hx hb dX9_forge_124 rfl (lv_at hl 3 rfl) ?_
                      obtain ⟨p_174, hp_174⟩ := cget_7 cI cZ cP cF q_37 S165
                      have hi_174 : cin S165 7 0 := Or.inl ⟨by decide, rfl⟩
                      have hFc := zm_free hD hS hA
                      refine va_callv (va_runV (As := [.ref (q_37 24 y37_1), .int x37_3]) (rest := []) ⟨hx, hb, hml, hown, hts⟩ (zd_X3_addTemplate l D cI cZ cP cF q_37 S165 y37_1 x37_3 H.size _ h) (cwV 2 hts zg_zd_X9_forge_zd_X3_addTemplate_82 rfl rfl rfl (by decide +kernel) ⟨Nat.le_of_ble_eq_true rfl, Nat.le_of_ble_eq_true rfl⟩) ⟨zCW, va_recv hK hP (ci := 3) (q0 := p_174) rfl hp_174, fun U hU hW => ⟨rfl, by rw [hU], by rw [hU]; exact hP, hE.warm hW, hD.weaken (fun _ _ _ _ => trivial)⟩⟩ rfl rfl hl.1 rfl (lv_room (Nat.le_of_ble_eq_true rfl)) dX9_forge_125 (cA_le hN)) hS (fun q _ h => hFc q h) hFc (fun S175 t H locs ht hvm h hB hz1 hk1 hS => ?_)
                      obtain ⟨hP, hD1, hN1⟩ := hB
                      rw [ht] at hP
                      have hD := hD1.weaken (fun k q _ hq => hFc q.1 hq)
                      have hN := cA_keep hN hN1
                      refine lv_aload_n hx hb dX9_forge_128 rfl (lv_at hl 1 rfl) ?_
                      refine lv_iload_n hx hb dX9_forge_129 rfl (lv_at hl 3 rfl) ?_
                      have hi_176 := h.1
                      have h := h.2
                      obtain ⟨p_176, hp_176⟩ := cget_24 cI cZ cP cF q_37 S175 hi_176
                      refine vp_callSi (va_Run.run (va_runV (As := [.int x37_3]) (rest := []) ⟨hx, hb, hml, hown, hts⟩ (zd_X8_opAt l D cI cZ cP cF q_37 S175 y37_1 x37_3  _ h) (cwV 1 hts zg_zd_X9_forge_zd_X8_opAt_86 rfl rfl rfl (by decide +kernel) ⟨Nat.le_of_ble_eq_true rfl, Nat.le_of_ble_eq_true rfl⟩) ⟨zCR, va_recv hK hP (ci := 8) (q0 := p_176) rfl hp_176, fun U hU hW => ⟨rfl, by rw [hU]; exact hP, hE.warm hW⟩⟩ rfl rfl hl.1 rfl (lv_room (Nat.le_of_ble_eq_true rfl)) dX9_forge_130 (cA_le hN))) (fun r177 h => ?_)
                      refine lv_bipush (v := 11) hx hb dX9_forge_133 (by decide) ?_
                      refine lv_icmp_ne (tgt := 148) hx hb dX9_forge_135 (by decide) (fun c_178 => ?_) (fun c_178 => ?_)
                      · have h := h.1 c_178
                        refine lv_iinc (v := x37_3 + 1) (lv' := [(3, .int (x37_3 + 1)), (0, .ref (q_37 15 0)), (1, .ref (q_37 24 y37_1)), (2, .int x37_2)]) hx hb dX9_forge_148 hl (k := 3) rfl rfl (by decide) rfl (fun ls hl => ?_)
                        refine lv_goto (tgt := 37) hx hb dX9_forge_151 (by decide) ?_
                        exact ih_37  q_37 S175 y37_1 x37_2 (x37_3 + 1) H locs _ _ _ h hP hD hS hN (lv_sub hl [1, 2, 3, 0] rfl)
                      · have h := h.2 c_178
                        refine lv_aload_n hx hb dX9_forge_138 rfl (lv_at hl 0 rfl) ?_
                        refine lv_aload_n hx hb dX9_forge_139 rfl (lv_at hl 1 rfl) ?_
                        have hi_179 := h.1
                        have h := h.2
                        obtain ⟨p_179, hp_179⟩ := cget_24 cI cZ cP cF q_37 S175 hi_179
                        refine va_get (D := D) (ci := 8) (v := .ref (q_37 28 y37_1)) (C := RX8) (T := TX8) (N := 10) hx hb hts (fun _ h => List.mem_cons_of_mem _ (List.mem_append_left _ (List.mem_append_left _ (List.mem_append_right _ h)))) hown hK hP p_179 hp_179 rfl 3 (by decide) (hts (.fieldLink RX9 41 "TemplateForge$Program" "heat" "LTemplateForge$Heat;") (List.mem_of_getElem? (i := 43) rfl)) (fun _ h9 => h9) rfl dX9_forge_140 ?_
                        refine lv_iconst (v := 3) hx hb dX9_forge_143 (by decide) ?_
                        refine lv_iload_n hx hb dX9_forge_144 rfl (lv_at hl 3 rfl) ?_
                        obtain ⟨p_180, hp_180⟩ := cget_15 cI cZ cP cF q_37 S175
                        have hi_180 : cin S175 15 0 := Or.inl ⟨by decide, rfl⟩
                        have hFc := zm_free hD hS hA
                        refine va_callv (va_runV (As := [.ref (q_37 28 y37_1), .int 3, .int x37_3]) (rest := []) ⟨hx, hb, hml, hown, hts⟩ (zd_X9_addGuards l D cI cZ cP cF q_37 S175 y37_1 3 x37_3 H.size _ h) (cwV 3 hts zg_zd_X9_forge_zd_X9_addGuards_47 rfl rfl rfl (by decide +kernel) ⟨Nat.le_of_ble_eq_true rfl, Nat.le_of_ble_eq_true rfl⟩) ⟨zCW, va_recv hK hP (ci := 9) (q0 := p_180) rfl hp_180, fun U hU hW => ⟨rfl, by rw [hU], by rw [hU]; exact hP, hE.warm hW, hD.weaken (fun _ _ _ _ => trivial)⟩⟩ rfl rfl hl.1 rfl (lv_room (Nat.le_of_ble_eq_true rfl)) dX9_forge_145 (cA_le hN)) hS (fun q _ h => hFc q h) hFc (fun S181 t H locs ht hvm h hB hz1 hk1 hS => ?_)
                        obtain ⟨hP, hD1, hN1⟩ := hB
                        rw [ht] at hP
                        have hD := hD1.weaken (fun k q _ hq => hFc q.1 hq)
                        have hN := cA_keep hN hN1
                        refine lv_iinc (v := x37_3 + 1) (lv' := [(3, .int (x37_3 + 1)), (0, .ref (q_37 15 0)), (1, .ref (q_37 24 y37_1)), (2, .int x37_2)]) hx hb dX9_forge_148 hl (k := 3) rfl rfl (by decide) rfl (fun ls hl => ?_)
                        refine lv_goto (tgt := 37) hx hb dX9_forge_151 (by decide) ?_
                        exact ih_37  q_37 S181 y37_1 x37_2 (x37_3 + 1) H locs _ _ _ h hP hD hS hN (lv_sub hl [1, 2, 3, 0] rfl)
                  · have h := h.2 c_157
                    refine lv_aload_n hx hb dX9_forge_83 rfl (lv_at hl 0 rfl) ?_
                    refine lv_bipush (v := 7) hx hb dX9_forge_84 (by decide) ?_
                    refine lv_bipush (v := 14) hx hb dX9_forge_86 (by decide) ?_
                    refine lv_iload_n hx hb dX9_forge_88 rfl (lv_at hl 3 rfl) ?_
                    refine lv_iconst (v := 1) hx hb dX9_forge_89 (by decide) ?_
                    refine lv_isub hx hb dX9_forge_90 ?_
                    obtain ⟨p_182, hp_182⟩ := cget_15 cI cZ cP cF q_37 S_37
                    have hi_182 : cin S_37 15 0 := Or.inl ⟨by decide, rfl⟩
                    have hFc := zm_free hD hS hA
                    refine va_callv (va_runV (As := [.int 7, .int 14, .int (x37_3 - 1)]) (rest := []) ⟨hx, hb, hml, hown, hts⟩ (zd_X9_lay l D cI cZ cP cF q_37 S_37 7 14 (x37_3 - 1) H.size _ h) (cwV 3 hts zg_zd_X9_forge_zd_X9_lay_66 rfl rfl rfl (by decide +kernel) ⟨Nat.le_of_ble_eq_true rfl, Nat.le_of_ble_eq_true rfl⟩) ⟨zCW, va_recv hK hP (ci := 9) (q0 := p_182) rfl hp_182, fun U hU hW => ⟨rfl, by rw [hU], by rw [hU]; exact hP, hE.warm hW, hD.weaken (fun _ _ _ _ => trivial)⟩⟩ rfl rfl hl.1 rfl (lv_room (Nat.le_of_ble_eq_true rfl)) dX9_forge_91 (cA_le hN)) hS (fun q _ h => hFc q h) hFc (fun S183 t H locs ht hvm h hB hz1 hk1 hS => ?_)
                    obtain ⟨hP, hD1, hN1⟩ := hB
                    rw [ht] at hP
                    have hD := hD1.weaken (fun k q _ hq => hFc q.1 hq)
                    have hN := cA_keep hN hN1
                    refine lv_aload_n hx hb dX9_forge_94 rfl (lv_at hl 0 rfl) ?_
                    refine lv_aload_n hx hb dX9_forge_95 rfl (lv_at hl 1 rfl) ?_
                    have hi_184 := h.1
                    have h := h.2
                    obtain ⟨p_184, hp_184⟩ := cget_24 cI cZ cP cF q_37 S183 hi_184
                    refine va_get (D := D) (ci := 8) (v := .ref (q_37 28 y37_1)) (C := RX8) (T := TX8) (N := 10) hx hb hts (fun _ h => List.mem_cons_of_mem _ (List.mem_append_left _ (List.mem_append_left _ (List.mem_append_right _ h)))) hown hK hP p_184 hp_184 rfl 3 (by decide) (hts (.fieldLink RX9 41 "TemplateForge$Program" "heat" "LTemplateForge$Heat;") (List.mem_of_getElem? (i := 43) rfl)) (fun _ h9 => h9) rfl dX9_forge_96 ?_
                    obtain ⟨p_185, hp_185⟩ := cget_15 cI cZ cP cF q_37 S183
                    have hi_185 : cin S183 15 0 := Or.inl ⟨by decide, rfl⟩
                    have hFc := zm_free hD hS hA
                    refine va_callv (va_runV (As := [.ref (q_37 28 y37_1)]) (rest := []) ⟨hx, hb, hml, hown, hts⟩ (zd_X9_knowArgsAlone l D cI cZ cP cF q_37 S183 y37_1 H.size _ h) (cwV 1 hts zg_zd_X9_forge_zd_X9_knowArgsAlone_70 rfl rfl rfl (by decide +kernel) ⟨Nat.le_of_ble_eq_true rfl, Nat.le_of_ble_eq_true rfl⟩) ⟨zCW, va_recv hK hP (ci := 9) (q0 := p_185) rfl hp_185, fun U hU hW => ⟨rfl, by rw [hU], by rw [hU]; exact hP, hE.warm hW, hD.weaken (fun _ _ _ _ => trivial)⟩⟩ rfl rfl hl.1 rfl (lv_room (Nat.le_of_ble_eq_true rfl)) dX9_forge_99 (cA_le hN)) hS (fun q _ h => hFc q h) hFc (fun S186 t H locs ht hvm h hB hz1 hk1 hS => ?_)
                    obtain ⟨hP, hD1, hN1⟩ := hB
                    rw [ht] at hP
                    have hD := hD1.weaken (fun k q _ hq => hFc q.1 hq)
                    have hN := cA_keep hN hN1
                    refine lv_aload_n hx hb dX9_forge_102 rfl (lv_at hl 0 rfl) ?_
                    obtain ⟨p_187, hp_187⟩ := cget_15 cI cZ cP cF q_37 S186
                    have hi_187 : cin S186 15 0 := Or.inl ⟨by decide, rfl⟩
                    refine va_get (D := D) (ci := 9) (v := .ref (q_37 7 0)) (C := RX9) (T := TX9) (N := 5) hx hb hts (fun _ h => List.mem_cons_of_mem _ (List.mem_append_left _ (List.mem_append_left _ (List.mem_append_left _ (List.mem_append_left _ (List.mem_append_right _ h)))))) hown hK hP p_187 hp_187 rfl 0 (by decide) (hts (.fieldLink RX9 25 "TemplateForge$Smith" "draft" "LTemplateForge$Draft;") (List.mem_of_getElem? (i := 1) rfl)) (fun _ h9 => h9) rfl dX9_forge_103 ?_
                    refine lv_iload_n hx hb dX9_forge_106 rfl (lv_at hl 3 rfl) ?_
                    obtain ⟨p_188, hp_188⟩ := cget_7 cI cZ cP cF q_37 S186
                    have hi_188 : cin S186 7 0 := Or.inl ⟨by decide, rfl⟩
                    have hFc := zm_free hD hS hA
                    refine va_callv (va_runV (As := [.int x37_3]) (rest := []) ⟨hx, hb, hml, hown, hts⟩ (zd_X3_begin l D cI cZ cP cF q_37 S186 x37_3 H.size _ h) (cwV 1 hts zg_zd_X9_forge_zd_X3_begin_74 rfl rfl rfl (by decide +kernel) ⟨Nat.le_of_ble_eq_true rfl, Nat.le_of_ble_eq_true rfl⟩) ⟨zCW, va_recv hK hP (ci := 3) (q0 := p_188) rfl hp_188, fun U hU hW => ⟨rfl, by rw [hU], by rw [hU]; exact hP, hE.warm hW, hD.weaken (fun _ _ _ _ => trivial)⟩⟩ rfl rfl hl.1 rfl (lv_room (Nat.le_of_ble_eq_true rfl)) dX9_forge_107 (cA_le hN)) hS (fun q _ h => hFc q h) hFc (fun S189 t H locs ht hvm h hB hz1 hk1 hS => ?_)
                    obtain ⟨hP, hD1, hN1⟩ := hB
                    rw [ht] at hP
                    have hD := hD1.weaken (fun k q _ hq => hFc q.1 hq)
                    have hN := cA_keep hN hN1
                    refine lv_aload_n hx hb dX9_forge_110 rfl (lv_at hl 0 rfl) ?_
                    refine lv_aload_n hx hb dX9_forge_111 rfl (lv_at hl 1 rfl) ?_
                    refine lv_iload_n hx hb dX9_forge_112 rfl (lv_at hl 3 rfl) ?_
                    obtain ⟨p_190, hp_190⟩ := cget_15 cI cZ cP cF q_37 S189
                    have hi_190 : cin S189 15 0 := Or.inl ⟨by decide, rfl⟩
                    have hFc := zm_free hD hS hA
                    refine va_calli (va_runV (As := [.ref (q_37 24 y37_1), .int x37_3]) (rest := []) ⟨hx, hb, hml, hown, hts⟩ (zd_X9_wantsTemplate l D cI cZ cP cF q_37 S189 y37_1 x37_3 H.size _ h) (cwV 2 hts zg_zd_X9_forge_zd_X9_wantsTemplate_78 rfl rfl rfl (by decide +kernel) ⟨Nat.le_of_ble_eq_true rfl, Nat.le_of_ble_eq_true rfl⟩) ⟨zCW, va_recv hK hP (ci := 9) (q0 := p_190) rfl hp_190, fun U hU hW => ⟨rfl, by rw [hU], by rw [hU]; exact hP, hE.warm hW, hD.weaken (fun _ _ _ _ => trivial)⟩⟩ rfl rfl hl.1 rfl (lv_room (Nat.le_of_ble_eq_true rfl)) dX9_forge_113 (cA_le hN)) hS (fun q _ h => hFc q h) hFc (fun r191 S191 t H locs ht hvm h hB hz1 hk1 hS => ?_)
                    obtain ⟨hP, hD1, hN1⟩ := hB
                    rw [ht] at hP
                    have hD := hD1.weaken (fun k q _ hq => hFc q.1 hq)
                    have hN := cA_keep hN hN1
                    refine lv_if_eq (tgt := 128) hx hb dX9_forge_116 (by decide) (fun c_192 => ?_) (fun c_192 => ?_)
                    · have h := h.1 c_192
                      refine lv_aload_n hx hb dX9_forge_128 rfl (lv_at hl 1 rfl) ?_
                      refine lv_iload_n hx hb dX9_forge_129 rfl (lv_at hl 3 rfl) ?_
                      have hi_193 := h.1
                      have h := h.2
                      obtain ⟨p_193, hp_193⟩ := cget_24 cI cZ cP cF q_37 S191 hi_193
                      refine vp_callSi (va_Run.run (va_runV (As := [.int x37_3]) (rest := []) ⟨hx, hb, hml, hown, hts⟩ (zd_X8_opAt l D cI cZ cP cF q_37 S191 y37_1 x37_3  _ h) (cwV 1 hts zg_zd_X9_forge_zd_X8_opAt_86 rfl rfl rfl (by decide +kernel) ⟨Nat.le_of_ble_eq_true rfl, Nat.le_of_ble_eq_true rfl⟩) ⟨zCR, va_recv hK hP (ci := 8) (q0 := p_193) rfl hp_193, fun U hU hW => ⟨rfl, by rw [hU]; exact hP, hE.warm hW⟩⟩ rfl rfl hl.1 rfl (lv_room (Nat.le_of_ble_eq_true rfl)) dX9_forge_130 (cA_le hN))) (fun r194 h => ?_)
                      refine lv_bipush (v := 11) hx hb dX9_forge_133 (by decide) ?_
                      refine lv_icmp_ne (tgt := 148) hx hb dX9_forge_135 (by decide) (fun c_195 => ?_) (fun c_195 => ?_)
                      · have h := h.1 c_195
                        refine lv_iinc (v := x37_3 + 1) (lv' := [(3, .int (x37_3 + 1)), (0, .ref (q_37 15 0)), (1, .ref (q_37 24 y37_1)), (2, .int x37_2)]) hx hb dX9_forge_148 hl (k := 3) rfl rfl (by decide) rfl (fun ls hl => ?_)
                        refine lv_goto (tgt := 37) hx hb dX9_forge_151 (by decide) ?_
                        exact ih_37  q_37 S191 y37_1 x37_2 (x37_3 + 1) H locs _ _ _ h hP hD hS hN (lv_sub hl [1, 2, 3, 0] rfl)
                      · have h := h.2 c_195
                        refine lv_aload_n hx hb dX9_forge_138 rfl (lv_at hl 0 rfl) ?_
                        refine lv_aload_n hx hb dX9_forge_139 rfl (lv_at hl 1 rfl) ?_
                        have hi_196 := h.1
                        have h := h.2
                        obtain ⟨p_196, hp_196⟩ := cget_24 cI cZ cP cF q_37 S191 hi_196
                        refine va_get (D := D) (ci := 8) (v := .ref (q_37 28 y37_1)) (C := RX8) (T := TX8) (N := 10) hx hb hts (fun _ h => List.mem_cons_of_mem _ (List.mem_append_left _ (List.mem_append_left _ (List.mem_append_right _ h)))) hown hK hP p_196 hp_196 rfl 3 (by decide) (hts (.fieldLink RX9 41 "TemplateForge$Program" "heat" "LTemplateForge$Heat;") (List.mem_of_getElem? (i := 43) rfl)) (fun _ h9 => h9) rfl dX9_forge_140 ?_
                        refine lv_iconst (v := 3) hx hb dX9_forge_143 (by decide) ?_
                        refine lv_iload_n hx hb dX9_forge_144 rfl (lv_at hl 3 rfl) ?_
                        obtain ⟨p_197, hp_197⟩ := cget_15 cI cZ cP cF q_37 S191
                        have hi_197 : cin S191 15 0 := Or.inl ⟨by decide, rfl⟩
                        have hFc := zm_free hD hS hA
                        refine va_callv (va_runV (As := [.ref (q_37 28 y37_1), .int 3, .int x37_3]) (rest := []) ⟨hx, hb, hml, hown, hts⟩ (zd_X9_addGuards l D cI cZ cP cF q_37 S191 y37_1 3 x37_3 H.size _ h) (cwV 3 hts zg_zd_X9_forge_zd_X9_addGuards_47 rfl rfl rfl (by decide +kernel) ⟨Nat.le_of_ble_eq_true rfl, Nat.le_of_ble_eq_true rfl⟩) ⟨zCW, va_recv hK hP (ci := 9) (q0 := p_197) rfl hp_197, fun U hU hW => ⟨rfl, by rw [hU], by rw [hU]; exact hP, hE.warm hW, hD.weaken (fun _ _ _ _ => trivial)⟩⟩ rfl rfl hl.1 rfl (lv_room (Nat.le_of_ble_eq_true rfl)) dX9_forge_145 (cA_le hN)) hS (fun q _ h => hFc q h) hFc (fun S198 t H locs ht hvm h hB hz1 hk1 hS => ?_)
                        obtain ⟨hP, hD1, hN1⟩ := hB
                        rw [ht] at hP
                        have hD := hD1.weaken (fun k q _ hq => hFc q.1 hq)
                        have hN := cA_keep hN hN1
                        refine lv_iinc (v := x37_3 + 1) (lv' := [(3, .int (x37_3 + 1)), (0, .ref (q_37 15 0)), (1, .ref (q_37 24 y37_1)), (2, .int x37_2)]) hx hb dX9_forge_148 hl (k := 3) rfl rfl (by decide) rfl (fun ls hl => ?_)
                        refine lv_goto (tgt := 37) hx hb dX9_forge_151 (by decide) ?_
                        exact ih_37  q_37 S198 y37_1 x37_2 (x37_3 + 1) H locs _ _ _ h hP hD hS hN (lv_sub hl [1, 2, 3, 0] rfl)
                    · have h := h.2 c_192
                      refine lv_aload_n hx hb dX9_forge_119 rfl (lv_at hl 0 rfl) ?_
                      obtain ⟨p_199, hp_199⟩ := cget_15 cI cZ cP cF q_37 S191
                      have hi_199 : cin S191 15 0 := Or.inl ⟨by decide, rfl⟩
                      refine va_get (D := D) (ci := 9) (v := .ref (q_37 7 0)) (C := RX9) (T := TX9) (N := 5) hx hb hts (fun _ h => List.mem_cons_of_mem _ (List.mem_append_left _ (List.mem_append_left _ (List.mem_append_left _ (List.mem_append_left _ (List.mem_append_right _ h)))))) hown hK hP p_199 hp_199 rfl 0 (by decide) (hts (.fieldLink RX9 25 "TemplateForge$Smith" "draft" "LTemplateForge$Draft;") (List.mem_of_getElem? (i := 1) rfl)) (fun _ h9 => h9) rfl dX9_forge_120 ?_
                      refine lv_aload_n hx hb dX9_forge_123 rfl (lv_at hl 1 rfl) ?_
                      refine lv_iload_n hx hb dX9_forge_124 rfl (lv_at hl 3 rfl) ?_
                      obtain ⟨p_200, hp_200⟩ := cget_7 cI cZ cP cF q_37 S191
                      have hi_200 : cin S191 7 0 := Or.inl ⟨by decide, rfl⟩
                      have hFc := zm_free hD hS hA
                      refine va_callv (va_runV (As := [.ref (q_37 24 y37_1), .int x37_3]) (rest := []) ⟨hx, hb, hml, hown, hts⟩ (zd_X3_addTemplate l D cI cZ cP cF q_37 S191 y37_1 x37_3 H.size _ h) (cwV 2 hts zg_zd_X9_forge_zd_X3_addTemplate_82 rfl rfl rfl (by decide +kernel) ⟨Nat.le_of_ble_eq_true rfl, Nat.le_of_ble_eq_true rfl⟩) ⟨zCW, va_recv hK hP (ci := 3) (q0 := p_200) rfl hp_200, fun U hU hW => ⟨rfl, by rw [hU], by rw [hU]; exact hP, hE.warm hW, hD.weaken (fun _ _ _ _ => trivial)⟩⟩ rfl rfl hl.1 rfl (lv_room (Nat.le_of_ble_eq_true rfl)) dX9_forge_125 (cA_le hN)) hS (fun q _ h => hFc q h) hFc (fun S201 t H locs ht hvm h hB hz1 hk1 hS => ?_)
                      obtain ⟨hP, hD1, hN1⟩ := hB
                      rw [ht] at hP
                      have hD := hD1.weaken (fun k q _ hq => hFc q.1 hq)
                      have hN := cA_keep hN hN1
                      refine lv_aload_n hx hb dX9_forge_128 rfl (lv_at hl 1 rfl) ?_
                      refine lv_iload_n hx hb dX9_forge_129 rfl (lv_at hl 3 rfl) ?_
                      have hi_202 := h.1
                      have h := h.2
                      obtain ⟨p_202, hp_202⟩ := cget_24 cI cZ cP cF q_37 S201 hi_202
                      refine vp_callSi (va_Run.run (va_runV (As := [.int x37_3]) (rest := []) ⟨hx, hb, hml, hown, hts⟩ (zd_X8_opAt l D cI cZ cP cF q_37 S201 y37_1 x37_3  _ h) (cwV 1 hts zg_zd_X9_forge_zd_X8_opAt_86 rfl rfl rfl (by decide +kernel) ⟨Nat.le_of_ble_eq_true rfl, Nat.le_of_ble_eq_true rfl⟩) ⟨zCR, va_recv hK hP (ci := 8) (q0 := p_202) rfl hp_202, fun U hU hW => ⟨rfl, by rw [hU]; exact hP, hE.warm hW⟩⟩ rfl rfl hl.1 rfl (lv_room (Nat.le_of_ble_eq_true rfl)) dX9_forge_130 (cA_le hN))) (fun r203 h => ?_)
                      refine lv_bipush (v := 11) hx hb dX9_forge_133 (by decide) ?_
                      refine lv_icmp_ne (tgt := 148) hx hb dX9_forge_135 (by decide) (fun c_204 => ?_) (fun c_204 => ?_)
                      · have h := h.1 c_204
                        refine lv_iinc (v := x37_3 + 1) (lv' := [(3, .int (x37_3 + 1)), (0, .ref (q_37 15 0)), (1, .ref (q_37 24 y37_1)), (2, .int x37_2)]) hx hb dX9_forge_148 hl (k := 3) rfl rfl (by decide) rfl (fun ls hl => ?_)
                        refine lv_goto (tgt := 37) hx hb dX9_forge_151 (by decide) ?_
                        exact ih_37  q_37 S201 y37_1 x37_2 (x37_3 + 1) H locs _ _ _ h hP hD hS hN (lv_sub hl [1, 2, 3, 0] rfl)
                      · have h := h.2 c_204
                        refine lv_aload_n hx hb dX9_forge_138 rfl (lv_at hl 0 rfl) ?_
                        refine lv_aload_n hx hb dX9_forge_139 rfl (lv_at hl 1 rfl) ?_
                        have hi_205 := h.1
                        have h := h.2
                        obtain ⟨p_205, hp_205⟩ := cget_24 cI cZ cP cF q_37 S201 hi_205
                        refine va_get (D := D) (ci := 8) (v := .ref (q_37 28 y37_1)) (C := RX8) (T := TX8) (N := 10) hx hb hts (fun _ h => List.mem_cons_of_mem _ (List.mem_append_left _ (List.mem_append_left _ (List.mem_append_right _ h)))) hown hK hP p_205 hp_205 rfl 3 (by decide) (hts (.fieldLink RX9 41 "TemplateForge$Program" "heat" "LTemplateForge$Heat;") (List.mem_of_getElem? (i := 43) rfl)) (fun _ h9 => h9) rfl dX9_forge_140 ?_
                        refine lv_iconst (v := 3) hx hb dX9_forge_143 (by decide) ?_
                        refine lv_iload_n hx hb dX9_forge_144 rfl (lv_at hl 3 rfl) ?_
                        obtain ⟨p_206, hp_206⟩ := cget_15 cI cZ cP cF q_37 S201
                        have hi_206 : cin S201 15 0 := Or.inl ⟨by decide, rfl⟩
                        have hFc := zm_free hD hS hA
                        refine va_callv (va_runV (As := [.ref (q_37 28 y37_1), .int 3, .int x37_3]) (rest := []) ⟨hx, hb, hml, hown, hts⟩ (zd_X9_addGuards l D cI cZ cP cF q_37 S201 y37_1 3 x37_3 H.size _ h) (cwV 3 hts zg_zd_X9_forge_zd_X9_addGuards_47 rfl rfl rfl (by decide +kernel) ⟨Nat.le_of_ble_eq_true rfl, Nat.le_of_ble_eq_true rfl⟩) ⟨zCW, va_recv hK hP (ci := 9) (q0 := p_206) rfl hp_206, fun U hU hW => ⟨rfl, by rw [hU], by rw [hU]; exact hP, hE.warm hW, hD.weaken (fun _ _ _ _ => trivial)⟩⟩ rfl rfl hl.1 rfl (lv_room (Nat.le_of_ble_eq_true rfl)) dX9_forge_145 (cA_le hN)) hS (fun q _ h => hFc q h) hFc (fun S207 t H locs ht hvm h hB hz1 hk1 hS => ?_)
                        obtain ⟨hP, hD1, hN1⟩ := hB
                        rw [ht] at hP
                        have hD := hD1.weaken (fun k q _ hq => hFc q.1 hq)
                        have hN := cA_keep hN hN1
                        refine lv_iinc (v := x37_3 + 1) (lv' := [(3, .int (x37_3 + 1)), (0, .ref (q_37 15 0)), (1, .ref (q_37 24 y37_1)), (2, .int x37_2)]) hx hb dX9_forge_148 hl (k := 3) rfl rfl (by decide) rfl (fun ls hl => ?_)
                        refine lv_goto (tgt := 37) hx hb dX9_forge_151 (by decide) ?_
                        exact ih_37  q_37 S207 y37_1 x37_2 (x37_3 + 1) H locs _ _ _ h hP hD hS hN (lv_sub hl [1, 2, 3, 0] rfl)
          · have h := h.2 c_26
            refine lv_goto (tgt := 148) hx hb dX9_forge_53 (by decide) ?_
            refine lv_iinc (v := x37_3 + 1) (lv' := [(3, .int (x37_3 + 1)), (0, .ref (q_37 15 0)), (1, .ref (q_37 24 y37_1)), (2, .int x37_2)]) hx hb dX9_forge_148 hl (k := 3) rfl rfl (by decide) rfl (fun ls hl => ?_)
            refine lv_goto (tgt := 37) hx hb dX9_forge_151 (by decide) ?_
            exact ih_37  q_37 S_37 y37_1 x37_2 (x37_3 + 1) H locs _ _ _ h hP hD hS hN (lv_sub hl [1, 2, 3, 0] rfl)
    obtain ⟨n_37, h⟩ := h
    exact LP_37 n_37 q S10 i1 r13 0 H locs _ _ _ h hP hD hS hN (lv_sub hl [2, 3, 1, 0] rfl)
  exact key _ _ 0 0 hP va_S.rf (cA_rf hcap)

def wj_X7_choosePath_55 (S_55 : CST) (y55_1 : Nat) (y55_2 : Nat) (Post : CST → Prop) : Prop :=
  cin S_55 28 y55_2 ∧ (((((cv S_55 280 y55_2 0) : Int32) = 0) → (cin S_55 28 y55_2 ∧ (wp_X5_remember S_55 y55_2 y55_1 (fun S5 => Post S5)))) ∧ ((¬ (((cv S_55 280 y55_2 0) : Int32) = 0)) → (cin S_55 28 y55_2 ∧ (((cv S_55 281 y55_2 0) < 0) → (cin S_55 22 y55_1 ∧ (∀ S9 : CST, S9 = cs S_55 221 y55_1 (fun _ => (-1)) → (cin S9 28 y55_2 ∧ (cin S9 28 y55_2 ∧ (∀ S12 : CST, S12 = cs S9 285 y55_2 (fun _ => (cv S9 285 y55_2 0) + 1) → (∀ S16 : CST, S16 = cs S12 203 0 (fun _ => (cv S12 203 0 0) + 1) → (Post S16)))))))) ∧ ((¬ ((cv S_55 281 y55_2 0) < 0)) → (cin S_55 22 y55_1 ∧ (∀ S18 : CST, S18 = cs S_55 221 y55_1 (fun _ => (cv S_55 281 y55_2 0)) → (cin S18 28 y55_2 ∧ (cin S18 28 y55_2 ∧ (∀ S21 : CST, S21 = cs S18 285 y55_2 (fun _ => (cv S18 285 y55_2 0) + 1) → (∀ S25 : CST, S25 = cs S21 203 0 (fun _ => (cv S21 203 0 0) + 1) → (Post S25)))))))))))
def wp_X7_choosePath (S : CST) (Post : CST → Prop) : Prop :=
  wp_X7_latestFrame S  (fun r27 => ((r27 < 0) → (((¬ (((cv S 127 0 0) : Int32) = 4)) → (Post S)) ∧ ((((cv S 127 0 0) : Int32) = 4) → (Post S)))) ∧ ((¬ (r27 < 0)) → (((¬ (((cv S 127 0 0) : Int32) = 4)) → (Post S)) ∧ ((((cv S 127 0 0) : Int32) = 4) → (cin S 22 ((r27 : Int32).toNatClampNeg) ∧ (((cv S 220 ((r27 : Int32).toNatClampNeg) 0) < 0) → (Post S)) ∧ ((¬ ((cv S 220 ((r27 : Int32).toNatClampNeg) 0) < 0)) → (cin S 22 ((r27 : Int32).toNatClampNeg) ∧ (((cv S 220 ((r27 : Int32).toNatClampNeg) 0) < 0) → (False)) ∧ ((¬ ((cv S 220 ((r27 : Int32).toNatClampNeg) 0) < 0)) → (cin S 24 (((cv S 220 ((r27 : Int32).toNatClampNeg) 0) : Int32).toNatClampNeg) ∧ (cin S 28 (((cv S 220 ((r27 : Int32).toNatClampNeg) 0) : Int32).toNatClampNeg) ∧ (wp_X5_isHot S (((cv S 220 ((r27 : Int32).toNatClampNeg) 0) : Int32).toNatClampNeg) (fun r39 => (((r39 : Int32) = 0) → (wj_X7_choosePath_55 S ((r27 : Int32).toNatClampNeg) (((cv S 220 ((r27 : Int32).toNatClampNeg) 0) : Int32).toNatClampNeg) Post)) ∧ ((¬ ((r39 : Int32) = 0)) → (cin S 22 ((r27 : Int32).toNatClampNeg) ∧ (((cv S 220 ((r27 : Int32).toNatClampNeg) 0) < 0) → (False)) ∧ ((¬ ((cv S 220 ((r27 : Int32).toNatClampNeg) 0) < 0)) → (cin S 28 (((cv S 220 ((r27 : Int32).toNatClampNeg) 0) : Int32).toNatClampNeg) ∧ cin S 22 ((r27 : Int32).toNatClampNeg) ∧ (wp_X9_forge S (((cv S 220 ((r27 : Int32).toNatClampNeg) 0) : Int32).toNatClampNeg) (fun S48 r48 => cin S48 28 (((cv S 220 ((r27 : Int32).toNatClampNeg) 0) : Int32).toNatClampNeg) ∧ (wp_X5_take S48 (((cv S 220 ((r27 : Int32).toNatClampNeg) 0) : Int32).toNatClampNeg) r48 (fun S50 => wj_X7_choosePath_55 S50 ((r27 : Int32).toNatClampNeg) (((cv S 220 ((r27 : Int32).toNatClampNeg) 0) : Int32).toNatClampNeg) Post))))))))))))))))))))
def zw_zd_X7_choosePath_w0 : List Cond := [.fieldLink RX7 133 "TemplateForge$Heat" "hasCode" "Z", .fieldLink RX7 32 "TemplateForge$Machine" "data" "LTemplateForge$Data;", .code yX5_remember cX5_remember 5 none, .fieldLink RX5 26 "TemplateForge$Heat" "counted" "I", .code yX2_valueOf cX2_valueOf 2 (some .int), .fieldLink RX2 9 "TemplateForge$Data" "fields" "[I", .methodLink RX5 36 yX2_valueOf, .instanceMethod yX2_valueOf, .selects RX2 yX2_valueOf yX2_valueOf, .initialized RX2, .fieldLink RX5 9 "TemplateForge$Heat" "first" "[I", .fieldLink RX5 15 "TemplateForge$Heat" "same" "[Z", .code yX4_valueOf cX4_valueOf 2 (some .int), .fieldLink RX4 9 "TemplateForge$Frame" "registers" "[I", .methodLink RX5 30 yX4_valueOf, .instanceMethod yX4_valueOf]
def zw_zd_X7_choosePath_w1 : List Cond := [.selects RX4 yX4_valueOf yX4_valueOf, .initialized RX4, .methodLink RX7 146 yX5_remember, .instanceMethod yX5_remember, .selects RX5 yX5_remember yX5_remember, .initialized RX5, .fieldLink RX7 137 "TemplateForge$Heat" "latest" "LTemplateForge$Code;", .fieldLink RX7 94 "TemplateForge$Frame" "code" "LTemplateForge$Code;", .fieldLink RX7 140 "TemplateForge$Heat" "ran" "I", .fieldLink RX7 12 "TemplateForge$Machine" "tally" "LTemplateForge$Tally;", .fieldLink RX7 143 "TemplateForge$Tally" "coded" "I", .code yX7_latestFrame cX7_latestFrame 1 (some (.object "TemplateForge$Frame")), .fieldLink RX7 49 "TemplateForge$Machine" "open" "I", .fieldLink RX7 20 "TemplateForge$Machine" "frames" "[LTemplateForge$Frame;", .methodLink RX7 111 yX7_latestFrame, .instanceMethod yX7_latestFrame]
def zw_zd_X7_choosePath_w2 : List Cond := [.selects RX7 yX7_latestFrame yX7_latestFrame, .initialized RX7, .fieldLink RX7 53 "TemplateForge$Machine" "ending" "I", .fieldLink RX7 84 "TemplateForge$Frame" "program" "LTemplateForge$Program;", .fieldLink RX7 115 "TemplateForge$Program" "heat" "LTemplateForge$Heat;", .code yX5_isHot cX5_isHot 1 (some .boolean), .fieldLink RX5 22 "TemplateForge$Heat" "hasCode" "Z", .methodLink RX7 119 yX5_isHot, .instanceMethod yX5_isHot, .selects RX5 yX5_isHot yX5_isHot, .fieldLink RX7 41 "TemplateForge$Machine" "smith" "LTemplateForge$Smith;", .code yX9_forge cX9_forge 4 (some (.object "TemplateForge$Code")), .fieldLink RX9 25 "TemplateForge$Smith" "draft" "LTemplateForge$Draft;", .code yX3_clear cX3_clear 1 none, .fieldLink RX3 18 "TemplateForge$Draft" "parts" "I", .fieldLink RX3 15 "TemplateForge$Draft" "starts" "[I"]
def zw_zd_X7_choosePath_w3 : List Cond := [.code yJ7_fill_53178 cJ7_fill_53178 4 none, .methodLink RX3 22 yJ7_fill_53178, .static yJ7_fill_53178, .initialized RJ7, .methodLink RX9 29 yX3_clear, .instanceMethod yX3_clear, .selects RX3 yX3_clear yX3_clear, .initialized RX3, .code yX9_findTargets cX9_findTargets 5 none, .fieldLink RX9 55 "TemplateForge$Program" "length" "I", .code yX8_opAt cX8_opAt 2 (some .int), .code yX8_has cX8_has 2 (some .boolean), .fieldLink RX8 41 "TemplateForge$Program" "length" "I", .methodLink RX8 44 yX8_has, .instanceMethod yX8_has, .selects RX8 yX8_has yX8_has]
def zw_zd_X7_choosePath_w4 : List Cond := [.initialized RX8, .fieldLink RX8 18 "TemplateForge$Program" "ops" "[I", .methodLink RX9 86 yX8_opAt, .instanceMethod yX8_opAt, .selects RX8 yX8_opAt yX8_opAt, .code yX8_xAt cX8_xAt 2 (some .int), .fieldLink RX8 22 "TemplateForge$Program" "xs" "[I", .methodLink RX9 99 yX8_xAt, .instanceMethod yX8_xAt, .selects RX8 yX8_xAt yX8_xAt, .code yX8_isDead cX8_isDead 2 (some .boolean), .fieldLink RX8 25 "TemplateForge$Program" "depths" "[I", .methodLink RX9 59 yX8_isDead, .instanceMethod yX8_isDead, .selects RX8 yX8_isDead yX8_isDead, .fieldLink RX9 19 "TemplateForge$Smith" "target" "[Z"]
def zw_zd_X7_choosePath_w5 : List Cond := [.methodLink RX9 34 yX9_findTargets, .instanceMethod yX9_findTargets, .selects RX9 yX9_findTargets yX9_findTargets, .initialized RX9, .code yX9_assume cX9_assume 5 none, .fieldLink RX9 22 "TemplateForge$Smith" "assumed" "[Z", .fieldLink RX9 41 "TemplateForge$Program" "heat" "LTemplateForge$Heat;", .code yX5_wasAlways cX5_wasAlways 2 (some .boolean), .fieldLink RX5 19 "TemplateForge$Heat" "varying" "[Z", .methodLink RX9 105 yX5_wasAlways, .instanceMethod yX5_wasAlways, .selects RX5 yX5_wasAlways yX5_wasAlways, .code yX9_uses cX9_uses 5 (some .boolean), .methodLink RX9 108 yX9_uses, .instanceMethod yX9_uses, .selects RX9 yX9_uses yX9_uses]
def zw_zd_X7_choosePath_w6 : List Cond := [.fieldLink RX9 102 "TemplateForge$Program" "args" "I", .methodLink RX9 38 yX9_assume, .instanceMethod yX9_assume, .selects RX9 yX9_assume yX9_assume, .code yX9_addGuards cX9_addGuards 6 none, .methodLink RX9 112 Lib.Math.max.name, .static Lib.Math.max.name, .initialized "java/lang/Math", .code Lib.Math.max.name Lib.Math.max.code 2 (some .int), .code yX5_valueOf cX5_valueOf 2 (some .int), .methodLink RX9 118 yX5_valueOf, .instanceMethod yX5_valueOf, .selects RX5 yX5_valueOf yX5_valueOf, .code yX3_add cX3_add 7 none, .fieldLink RX3 9 "TemplateForge$Draft" "cells" "[I", .methodLink RX9 121 yX3_add]
def zw_zd_X7_choosePath_w7 : List Cond := [.instanceMethod yX3_add, .selects RX3 yX3_add yX3_add, .methodLink RX9 47 yX9_addGuards, .instanceMethod yX9_addGuards, .selects RX9 yX9_addGuards yX9_addGuards, .code yX3_parts cX3_parts 1 (some .int), .methodLink RX9 51 yX3_parts, .instanceMethod yX3_parts, .selects RX3 yX3_parts yX3_parts, .fieldLink RX9 90 "TemplateForge$Heat" "made" "I", .code yX3_finish cX3_finish 5 (some (.object "TemplateForge$Code")), .methodLink RX3 48 Lib.Math.max.name, .code yJ7_copyOf_59c91 cJ7_copyOf_59c91 3 (some (.array .int)), .methodLink RJ7 316 ⟨"[I", "clone", "()Ljava/lang/Object;"⟩, .sameMethod "[I" "java/lang/Object" "clone" "()Ljava/lang/Object;", .native ⟨"java/lang/Object", "clone", "()Ljava/lang/Object;"⟩]
def zw_zd_X7_choosePath_w8 : List Cond := [.instanceMethod ⟨"java/lang/Object", "clone", "()Ljava/lang/Object;"⟩, .selects "[I" ⟨"[I", "clone", "()Ljava/lang/Object;"⟩ ⟨"java/lang/Object", "clone", "()Ljava/lang/Object;"⟩, .classLink RJ7 317 "[I", .arrayClass .int, .methodLink RJ7 304 Lib.Math.min.name, .static Lib.Math.min.name, .code Lib.Math.min.name Lib.Math.min.code 2 (some .int), .methodLink RJ7 150 arraycopyName, .native arraycopyName, .static arraycopyName, .initialized "java/lang/System", .methodLink RX3 54 yJ7_copyOf_59c91, .static yJ7_copyOf_59c91, .classLink RX3 58 RX1, .instantiable RX1 4, .initialized RX1]
def zw_zd_X7_choosePath_w9 : List Cond := [.code yX1_init cX1_init 5 none, .methodLink RX1 3 objectInit, .instanceMethod objectInit, .code objectInit ⟨#[0xb1]⟩ 1 none, .fieldLink RX1 9 "TemplateForge$Code" "making" "I", .fieldLink RX1 15 "TemplateForge$Code" "heads" "I", .fieldLink RX1 18 "TemplateForge$Code" "cells" "[I", .fieldLink RX1 22 "TemplateForge$Code" "starts" "[I", .methodLink RX3 60 yX1_init, .instanceMethod yX1_init, .methodLink RX9 95 yX3_finish, .instanceMethod yX3_finish, .selects RX3 yX3_finish yX3_finish, .code yX9_knowArgsAlone cX9_knowArgsAlone 3 none, .code yX9_know cX9_know 3 none, .fieldLink RX9 9 "TemplateForge$Smith" "known" "[Z"]
def zw_zd_X7_choosePath_w10 : List Cond := [.fieldLink RX9 15 "TemplateForge$Smith" "worth" "[I", .methodLink RX9 125 yX9_know, .instanceMethod yX9_know, .selects RX9 yX9_know yX9_know, .methodLink RX9 70 yX9_knowArgsAlone, .instanceMethod yX9_knowArgsAlone, .selects RX9 yX9_knowArgsAlone yX9_knowArgsAlone, .code yX3_begin cX3_begin 2 none, .methodLink RX9 74 yX3_begin, .instanceMethod yX3_begin, .selects RX3 yX3_begin yX3_begin, .code yX9_wantsTemplate cX9_wantsTemplate 6 (some .boolean), .code yX8_depthAt cX8_depthAt 2 (some .int), .methodLink RX9 129 yX8_depthAt, .instanceMethod yX8_depthAt, .selects RX8 yX8_depthAt yX8_depthAt]
def zw_zd_X7_choosePath_w11 : List Cond := [.code yX9_isResultKnown cX9_isResultKnown 6 (some .boolean), .code yX9_isKnown cX9_isKnown 2 (some .boolean), .methodLink RX9 154 yX9_isKnown, .instanceMethod yX9_isKnown, .selects RX9 yX9_isKnown yX9_isKnown, .code yX9_lay cX9_lay 5 none, .methodLink RX9 66 yX9_lay, .instanceMethod yX9_lay, .selects RX9 yX9_lay yX9_lay, .code yX9_worthOf cX9_worthOf 2 (some .int), .methodLink RX9 157 yX9_worthOf, .instanceMethod yX9_worthOf, .selects RX9 yX9_worthOf yX9_worthOf, .code yX11_reckoned cX11_reckoned 3 (some .int), .static yX11_reckoned, .initialized RX11]
def zw_zd_X7_choosePath_w12 : List Cond := [.code yX9_forget cX9_forget 2 none, .methodLink RX9 140 yX9_forget, .instanceMethod yX9_forget, .selects RX9 yX9_forget yX9_forget, .methodLink RX9 150 yX9_isResultKnown, .instanceMethod yX9_isResultKnown, .selects RX9 yX9_isResultKnown yX9_isResultKnown, .code yX9_isCopyKnown cX9_isCopyKnown 3 (some .boolean), .methodLink RX9 132 yX9_isCopyKnown, .instanceMethod yX9_isCopyKnown, .selects RX9 yX9_isCopyKnown yX9_isCopyKnown, .code yX9_isStoredKnown cX9_isStoredKnown 4 (some .boolean), .methodLink RX9 136 yX9_isStoredKnown, .instanceMethod yX9_isStoredKnown, .selects RX9 yX9_isStoredKnown yX9_isStoredKnown, .code yX9_isWaySure cX9_isWaySure 4 (some .boolean)]
def zw_zd_X7_choosePath_w13 : List Cond := [.methodLink RX9 143 yX9_isWaySure, .instanceMethod yX9_isWaySure, .selects RX9 yX9_isWaySure yX9_isWaySure, .code yX9_isFieldKnown cX9_isFieldKnown 5 (some .boolean), .methodLink RX9 146 yX9_isFieldKnown, .instanceMethod yX9_isFieldKnown, .selects RX9 yX9_isFieldKnown yX9_isFieldKnown, .methodLink RX9 78 yX9_wantsTemplate, .instanceMethod yX9_wantsTemplate, .selects RX9 yX9_wantsTemplate yX9_wantsTemplate, .code yX3_addTemplate cX3_addTemplate 6 none, .methodLink RX3 28 yX8_opAt, .methodLink RX3 34 yX8_xAt, .methodLink RX3 37 yX8_depthAt, .code yX3_addReckoning cX3_addReckoning 5 none, .methodLink RX3 40 yX3_add]
def zw_zd_X7_choosePath_w14 : List Cond := [.methodLink RX3 44 yX3_addReckoning, .instanceMethod yX3_addReckoning, .selects RX3 yX3_addReckoning yX3_addReckoning, .methodLink RX9 82 yX3_addTemplate, .instanceMethod yX3_addTemplate, .selects RX3 yX3_addTemplate yX3_addTemplate, .code yX8_goesOnAt cX8_goesOnAt 3 (some .boolean), .methodLink RX8 48 yX8_opAt, .methodLink RX8 52 yX8_isDead, .methodLink RX9 63 yX8_goesOnAt, .instanceMethod yX8_goesOnAt, .selects RX8 yX8_goesOnAt yX8_goesOnAt, .methodLink RX7 125 yX9_forge, .instanceMethod yX9_forge, .selects RX9 yX9_forge yX9_forge, .code yX5_take cX5_take 2 none]
def zw_zd_X7_choosePath_w15 : List Cond := [.fieldLink RX5 39 "TemplateForge$Heat" "latest" "LTemplateForge$Code;", .fieldLink RX5 43 "TemplateForge$Code" "making" "I", .fieldLink RX5 48 "TemplateForge$Heat" "made" "I", .methodLink RX7 129 yX5_take, .instanceMethod yX5_take, .selects RX5 yX5_take yX5_take]
def zw_zd_X7_choosePath : List Cond := .code yX7_choosePath cX7_choosePath 3 none :: ((zw_zd_X7_choosePath_w0 ++ (zw_zd_X7_choosePath_w1 ++ (zw_zd_X7_choosePath_w2 ++ (zw_zd_X7_choosePath_w3 ++ (zw_zd_X7_choosePath_w4 ++ (zw_zd_X7_choosePath_w5 ++ (zw_zd_X7_choosePath_w6 ++ (zw_zd_X7_choosePath_w7 ++ (zw_zd_X7_choosePath_w8 ++ (zw_zd_X7_choosePath_w9 ++ (zw_zd_X7_choosePath_w10 ++ (zw_zd_X7_choosePath_w11 ++ (zw_zd_X7_choosePath_w12 ++ (zw_zd_X7_choosePath_w13 ++ (zw_zd_X7_choosePath_w14 ++ (zw_zd_X7_choosePath_w15)))))))))))))))) ++ wsX50 ++ wsX70 ++ wsX20 ++ wsX40 ++ wsX100 ++ wsX80 ++ wsX90 ++ wsX30 ++ wsX10)
set_option maxRecDepth 100000 in
theorem zg_zd_X7_choosePath_zd_X5_remember_146_a : GoodIn zw_zd_X7_choosePath [.methodLink RX7 146 yX5_remember, .instanceMethod yX5_remember, .selects RX5 yX5_remember yX5_remember, .initialized RX5] := goodIn_r _ [19, 20, 21, 22] rfl (by decide +kernel)
set_option maxRecDepth 100000 in
theorem zg_zd_X7_choosePath_zd_X5_remember_146_c : GoodIn zw_zd_X7_choosePath [.code yX5_remember cX5_remember 5 none] := goodIn_r _ [3] rfl (by decide +kernel)
set_option maxRecDepth 100000 in
theorem zg_zd_X7_choosePath_zd_X5_remember_146_0 : GoodIn zw_zd_X7_choosePath zw_zd_X5_remember_w0 := goodIn_r _ [4, 5, 6, 7, 8, 9, 10, 11, 12, 13, 14, 15, 16, 17, 18] rfl (by decide +kernel)
theorem zg_zd_X7_choosePath_zd_X5_remember_146 : GoodIn zw_zd_X7_choosePath (wsV RX7 146 RX5 yX5_remember zw_zd_X5_remember) := goodIn_app zg_zd_X7_choosePath_zd_X5_remember_146_a (goodIn_ca (a := (((zw_zd_X5_remember_w0) ++ wsX50) ++ wsX20)) (goodIn_ca (a := ((zw_zd_X5_remember_w0) ++ wsX50)) (goodIn_ca (a := (zw_zd_X5_remember_w0)) (show GoodIn zw_zd_X7_choosePath (.code yX5_remember cX5_remember 5 none :: (zw_zd_X5_remember_w0)) from goodIn_app zg_zd_X7_choosePath_zd_X5_remember_146_c (zg_zd_X7_choosePath_zd_X5_remember_146_0)) (fun w h => ⟨(fun _ h => List.mem_cons_of_mem _ (List.mem_append_left _ (List.mem_append_left _ (List.mem_append_left _ (List.mem_append_left _ (List.mem_append_left _ (List.mem_append_left _ (List.mem_append_left _ (List.mem_append_left _ (List.mem_append_right _ h)))))))))) w h, good_of_word (List.all_eq_true.mp zgw_X5 w h)⟩)) (fun w h => ⟨(fun _ h => List.mem_cons_of_mem _ (List.mem_append_left _ (List.mem_append_left _ (List.mem_append_left _ (List.mem_append_left _ (List.mem_append_left _ (List.mem_append_left _ (List.mem_append_right _ h)))))))) w h, good_of_word (List.all_eq_true.mp zgw_X2 w h)⟩)) (fun w h => ⟨(fun _ h => List.mem_cons_of_mem _ (List.mem_append_left _ (List.mem_append_left _ (List.mem_append_left _ (List.mem_append_left _ (List.mem_append_left _ (List.mem_append_right _ h))))))) w h, good_of_word (List.all_eq_true.mp zgw_X4 w h)⟩))
set_option maxRecDepth 100000 in
theorem zg_zd_X7_choosePath_zd_X7_latestFrame_111_a : GoodIn zw_zd_X7_choosePath [.methodLink RX7 111 yX7_latestFrame, .instanceMethod yX7_latestFrame, .selects RX7 yX7_latestFrame yX7_latestFrame, .initialized RX7] := goodIn_r _ [31, 32, 33, 34] rfl (by decide +kernel)
set_option maxRecDepth 100000 in
theorem zg_zd_X7_choosePath_zd_X7_latestFrame_111_c : GoodIn zw_zd_X7_choosePath [.code yX7_latestFrame cX7_latestFrame 1 (some (.object "TemplateForge$Frame"))] := goodIn_r _ [28] rfl (by decide +kernel)
set_option maxRecDepth 100000 in
theorem zg_zd_X7_choosePath_zd_X7_latestFrame_111_0 : GoodIn zw_zd_X7_choosePath zw_zd_X7_latestFrame_w0 := goodIn_r _ [29, 30] rfl (by decide +kernel)
theorem zg_zd_X7_choosePath_zd_X7_latestFrame_111 : GoodIn zw_zd_X7_choosePath (wsV RX7 111 RX7 yX7_latestFrame zw_zd_X7_latestFrame) := goodIn_app zg_zd_X7_choosePath_zd_X7_latestFrame_111_a (goodIn_ca (a := (zw_zd_X7_latestFrame_w0)) (show GoodIn zw_zd_X7_choosePath (.code yX7_latestFrame cX7_latestFrame 1 (some (.object "TemplateForge$Frame")) :: (zw_zd_X7_latestFrame_w0)) from goodIn_app zg_zd_X7_choosePath_zd_X7_latestFrame_111_c (zg_zd_X7_choosePath_zd_X7_latestFrame_111_0)) (fun w h => ⟨(fun _ h => List.mem_cons_of_mem _ (List.mem_append_left _ (List.mem_append_left _ (List.mem_append_left _ (List.mem_append_left _ (List.mem_append_left _ (List.mem_append_left _ (List.mem_append_left _ (List.mem_append_right _ h))))))))) w h, good_of_word (List.all_eq_true.mp zgw_X7 w h)⟩))
set_option maxRecDepth 100000 in
theorem zg_zd_X7_choosePath_zd_X5_isHot_119_a : GoodIn zw_zd_X7_choosePath [.methodLink RX7 119 yX5_isHot, .instanceMethod yX5_isHot, .selects RX5 yX5_isHot yX5_isHot, .initialized RX5] := goodIn_r _ [40, 41, 42, 22] rfl (by decide +kernel)
set_option maxRecDepth 100000 in
theorem zg_zd_X7_choosePath_zd_X5_isHot_119_c : GoodIn zw_zd_X7_choosePath [.code yX5_isHot cX5_isHot 1 (some .boolean)] := goodIn_r _ [38] rfl (by decide +kernel)
set_option maxRecDepth 100000 in
theorem zg_zd_X7_choosePath_zd_X5_isHot_119_0 : GoodIn zw_zd_X7_choosePath zw_zd_X5_isHot_w0 := goodIn_r _ [39, 4] rfl (by decide +kernel)
theorem zg_zd_X7_choosePath_zd_X5_isHot_119 : GoodIn zw_zd_X7_choosePath (wsV RX7 119 RX5 yX5_isHot zw_zd_X5_isHot) := goodIn_app zg_zd_X7_choosePath_zd_X5_isHot_119_a (goodIn_ca (a := (zw_zd_X5_isHot_w0)) (show GoodIn zw_zd_X7_choosePath (.code yX5_isHot cX5_isHot 1 (some .boolean) :: (zw_zd_X5_isHot_w0)) from goodIn_app zg_zd_X7_choosePath_zd_X5_isHot_119_c (zg_zd_X7_choosePath_zd_X5_isHot_119_0)) (fun w h => ⟨(fun _ h => List.mem_cons_of_mem _ (List.mem_append_left _ (List.mem_append_left _ (List.mem_append_left _ (List.mem_append_left _ (List.mem_append_left _ (List.mem_append_left _ (List.mem_append_left _ (List.mem_append_left _ (List.mem_append_right _ h)))))))))) w h, good_of_word (List.all_eq_true.mp zgw_X5 w h)⟩))
set_option maxRecDepth 100000 in
theorem zg_zd_X7_choosePath_zd_X9_forge_125_a : GoodIn zw_zd_X7_choosePath [.methodLink RX7 125 yX9_forge, .instanceMethod yX9_forge, .selects RX9 yX9_forge yX9_forge, .initialized RX9] := goodIn_r _ [237, 238, 239, 84] rfl (by decide +kernel)
set_option maxRecDepth 100000 in
theorem zg_zd_X7_choosePath_zd_X9_forge_125_c : GoodIn zw_zd_X7_choosePath [.code yX9_forge cX9_forge 4 (some (.object "TemplateForge$Code"))] := goodIn_r _ [44] rfl (by decide +kernel)
set_option maxRecDepth 100000 in
theorem zg_zd_X7_choosePath_zd_X9_forge_125_0 : GoodIn zw_zd_X7_choosePath zw_zd_X9_forge_w0 := goodIn_r _ [45, 46, 47, 48, 49, 50, 51, 52, 53, 54, 55, 56, 57, 58, 59, 60] rfl (by decide +kernel)
set_option maxRecDepth 100000 in
theorem zg_zd_X7_choosePath_zd_X9_forge_125_1 : GoodIn zw_zd_X7_choosePath zw_zd_X9_forge_w1 := goodIn_r _ [61, 62, 63, 64, 65, 66, 67, 68, 69, 70, 71, 72, 73, 74, 75, 76] rfl (by decide +kernel)
set_option maxRecDepth 100000 in
theorem zg_zd_X7_choosePath_zd_X9_forge_125_2 : GoodIn zw_zd_X7_choosePath zw_zd_X9_forge_w2 := goodIn_r _ [77, 78, 79, 80, 81, 82, 83, 84, 85, 86, 87, 88, 4, 12, 89, 90] rfl (by decide +kernel)
set_option maxRecDepth 100000 in
theorem zg_zd_X7_choosePath_zd_X9_forge_125_3 : GoodIn zw_zd_X7_choosePath zw_zd_X9_forge_w3 := goodIn_r _ [91, 92, 22, 93, 94, 95, 96, 97, 98, 99, 100, 101, 102, 103, 104, 105] rfl (by decide +kernel)
set_option maxRecDepth 100000 in
theorem zg_zd_X7_choosePath_zd_X9_forge_125_4 : GoodIn zw_zd_X7_choosePath zw_zd_X9_forge_w4 := goodIn_r _ [106, 11, 107, 108, 109, 110, 111, 112, 113, 114, 115, 116, 117, 118, 119, 120] rfl (by decide +kernel)
set_option maxRecDepth 100000 in
theorem zg_zd_X7_choosePath_zd_X9_forge_125_5 : GoodIn zw_zd_X7_choosePath zw_zd_X9_forge_w5 := goodIn_r _ [121, 122, 123, 124, 125, 126, 127, 128, 129, 130, 131, 132, 133, 134, 135, 136] rfl (by decide +kernel)
set_option maxRecDepth 100000 in
theorem zg_zd_X7_choosePath_zd_X9_forge_125_6 : GoodIn zw_zd_X7_choosePath zw_zd_X9_forge_w6 := goodIn_r _ [137, 138, 139, 140, 141, 142, 143, 144, 145, 146, 147, 148, 149, 150, 151, 152] rfl (by decide +kernel)
set_option maxRecDepth 100000 in
theorem zg_zd_X7_choosePath_zd_X9_forge_125_7 : GoodIn zw_zd_X7_choosePath zw_zd_X9_forge_w7 := goodIn_r _ [153, 154, 155, 156, 157, 158, 159, 160, 161, 162, 163, 164, 165, 166, 167, 168] rfl (by decide +kernel)
set_option maxRecDepth 100000 in
theorem zg_zd_X7_choosePath_zd_X9_forge_125_8 : GoodIn zw_zd_X7_choosePath zw_zd_X9_forge_w8 := goodIn_r _ [169, 170, 171, 172, 173, 174, 175, 176, 177, 178, 179, 180, 181, 182, 183, 184] rfl (by decide +kernel)
set_option maxRecDepth 100000 in
theorem zg_zd_X7_choosePath_zd_X9_forge_125_9 : GoodIn zw_zd_X7_choosePath zw_zd_X9_forge_w9 := goodIn_r _ [185, 186, 187, 188, 189, 190, 191, 192, 193, 194, 195, 196, 197, 198, 199, 200] rfl (by decide +kernel)
set_option maxRecDepth 100000 in
theorem zg_zd_X7_choosePath_zd_X9_forge_125_10 : GoodIn zw_zd_X7_choosePath zw_zd_X9_forge_w10 := goodIn_r _ [201, 202, 203, 204, 205, 206, 207, 208, 209, 210, 211, 212, 213, 214, 215, 216] rfl (by decide +kernel)
set_option maxRecDepth 100000 in
theorem zg_zd_X7_choosePath_zd_X9_forge_125_11 : GoodIn zw_zd_X7_choosePath zw_zd_X9_forge_w11 := goodIn_r _ [217, 218, 219, 220, 221, 222, 223, 224, 225, 226, 227, 228, 229, 230, 231, 232] rfl (by decide +kernel)
set_option maxRecDepth 100000 in
theorem zg_zd_X7_choosePath_zd_X9_forge_125_12 : GoodIn zw_zd_X7_choosePath zw_zd_X9_forge_w12 := goodIn_r _ [233, 234, 235, 236] rfl (by decide +kernel)
theorem zg_zd_X7_choosePath_zd_X9_forge_125 : GoodIn zw_zd_X7_choosePath (wsV RX7 125 RX9 yX9_forge zw_zd_X9_forge) := goodIn_app zg_zd_X7_choosePath_zd_X9_forge_125_a (goodIn_ca (a := (((((zw_zd_X9_forge_w0 ++ (zw_zd_X9_forge_w1 ++ (zw_zd_X9_forge_w2 ++ (zw_zd_X9_forge_w3 ++ (zw_zd_X9_forge_w4 ++ (zw_zd_X9_forge_w5 ++ (zw_zd_X9_forge_w6 ++ (zw_zd_X9_forge_w7 ++ (zw_zd_X9_forge_w8 ++ (zw_zd_X9_forge_w9 ++ (zw_zd_X9_forge_w10 ++ (zw_zd_X9_forge_w11 ++ (zw_zd_X9_forge_w12))))))))))))) ++ wsX90) ++ wsX30) ++ wsX80) ++ wsX50)) (goodIn_ca (a := ((((zw_zd_X9_forge_w0 ++ (zw_zd_X9_forge_w1 ++ (zw_zd_X9_forge_w2 ++ (zw_zd_X9_forge_w3 ++ (zw_zd_X9_forge_w4 ++ (zw_zd_X9_forge_w5 ++ (zw_zd_X9_forge_w6 ++ (zw_zd_X9_forge_w7 ++ (zw_zd_X9_forge_w8 ++ (zw_zd_X9_forge_w9 ++ (zw_zd_X9_forge_w10 ++ (zw_zd_X9_forge_w11 ++ (zw_zd_X9_forge_w12))))))))))))) ++ wsX90) ++ wsX30) ++ wsX80)) (goodIn_ca (a := (((zw_zd_X9_forge_w0 ++ (zw_zd_X9_forge_w1 ++ (zw_zd_X9_forge_w2 ++ (zw_zd_X9_forge_w3 ++ (zw_zd_X9_forge_w4 ++ (zw_zd_X9_forge_w5 ++ (zw_zd_X9_forge_w6 ++ (zw_zd_X9_forge_w7 ++ (zw_zd_X9_forge_w8 ++ (zw_zd_X9_forge_w9 ++ (zw_zd_X9_forge_w10 ++ (zw_zd_X9_forge_w11 ++ (zw_zd_X9_forge_w12))))))))))))) ++ wsX90) ++ wsX30)) (goodIn_ca (a := ((zw_zd_X9_forge_w0 ++ (zw_zd_X9_forge_w1 ++ (zw_zd_X9_forge_w2 ++ (zw_zd_X9_forge_w3 ++ (zw_zd_X9_forge_w4 ++ (zw_zd_X9_forge_w5 ++ (zw_zd_X9_forge_w6 ++ (zw_zd_X9_forge_w7 ++ (zw_zd_X9_forge_w8 ++ (zw_zd_X9_forge_w9 ++ (zw_zd_X9_forge_w10 ++ (zw_zd_X9_forge_w11 ++ (zw_zd_X9_forge_w12))))))))))))) ++ wsX90)) (goodIn_ca (a := (zw_zd_X9_forge_w0 ++ (zw_zd_X9_forge_w1 ++ (zw_zd_X9_forge_w2 ++ (zw_zd_X9_forge_w3 ++ (zw_zd_X9_forge_w4 ++ (zw_zd_X9_forge_w5 ++ (zw_zd_X9_forge_w6 ++ (zw_zd_X9_forge_w7 ++ (zw_zd_X9_forge_w8 ++ (zw_zd_X9_forge_w9 ++ (zw_zd_X9_forge_w10 ++ (zw_zd_X9_forge_w11 ++ (zw_zd_X9_forge_w12)))))))))))))) (show GoodIn zw_zd_X7_choosePath (.code yX9_forge cX9_forge 4 (some (.object "TemplateForge$Code")) :: (zw_zd_X9_forge_w0 ++ (zw_zd_X9_forge_w1 ++ (zw_zd_X9_forge_w2 ++ (zw_zd_X9_forge_w3 ++ (zw_zd_X9_forge_w4 ++ (zw_zd_X9_forge_w5 ++ (zw_zd_X9_forge_w6 ++ (zw_zd_X9_forge_w7 ++ (zw_zd_X9_forge_w8 ++ (zw_zd_X9_forge_w9 ++ (zw_zd_X9_forge_w10 ++ (zw_zd_X9_forge_w11 ++ (zw_zd_X9_forge_w12)))))))))))))) from goodIn_app zg_zd_X7_choosePath_zd_X9_forge_125_c (goodIn_app zg_zd_X7_choosePath_zd_X9_forge_125_0 (goodIn_app zg_zd_X7_choosePath_zd_X9_forge_125_1 (goodIn_app zg_zd_X7_choosePath_zd_X9_forge_125_2 (goodIn_app zg_zd_X7_choosePath_zd_X9_forge_125_3 (goodIn_app zg_zd_X7_choosePath_zd_X9_forge_125_4 (goodIn_app zg_zd_X7_choosePath_zd_X9_forge_125_5 (goodIn_app zg_zd_X7_choosePath_zd_X9_forge_125_6 (goodIn_app zg_zd_X7_choosePath_zd_X9_forge_125_7 (goodIn_app zg_zd_X7_choosePath_zd_X9_forge_125_8 (goodIn_app zg_zd_X7_choosePath_zd_X9_forge_125_9 (goodIn_app zg_zd_X7_choosePath_zd_X9_forge_125_10 (goodIn_app zg_zd_X7_choosePath_zd_X9_forge_125_11 (zg_zd_X7_choosePath_zd_X9_forge_125_12)))))))))))))) (fun w h => ⟨(fun _ h => List.mem_cons_of_mem _ (List.mem_append_left _ (List.mem_append_left _ (List.mem_append_right _ h)))) w h, good_of_word (List.all_eq_true.mp zgw_X9 w h)⟩)) (fun w h => ⟨(fun _ h => List.mem_cons_of_mem _ (List.mem_append_left _ (List.mem_append_right _ h))) w h, good_of_word (List.all_eq_true.mp zgw_X3 w h)⟩)) (fun w h => ⟨(fun _ h => List.mem_cons_of_mem _ (List.mem_append_left _ (List.mem_append_left _ (List.mem_append_left _ (List.mem_append_right _ h))))) w h, good_of_word (List.all_eq_true.mp zgw_X8 w h)⟩)) (fun w h => ⟨(fun _ h => List.mem_cons_of_mem _ (List.mem_append_left _ (List.mem_append_left _ (List.mem_append_left _ (List.mem_append_left _ (List.mem_append_left _ (List.mem_append_left _ (List.mem_append_left _ (List.mem_append_left _ (List.mem_append_right _ h)))))))))) w h, good_of_word (List.all_eq_true.mp zgw_X5 w h)⟩)) (fun w h => ⟨(fun _ h => List.mem_cons_of_mem _ (List.mem_append_right _ h)) w h, good_of_word (List.all_eq_true.mp zgw_X1 w h)⟩))
set_option maxRecDepth 100000 in
theorem zg_zd_X7_choosePath_zd_X5_take_129_a : GoodIn zw_zd_X7_choosePath [.methodLink RX7 129 yX5_take, .instanceMethod yX5_take, .selects RX5 yX5_take yX5_take, .initialized RX5] := goodIn_r _ [244, 245, 246, 22] rfl (by decide +kernel)
set_option maxRecDepth 100000 in
theorem zg_zd_X7_choosePath_zd_X5_take_129_c : GoodIn zw_zd_X7_choosePath [.code yX5_take cX5_take 2 none] := goodIn_r _ [240] rfl (by decide +kernel)
set_option maxRecDepth 100000 in
theorem zg_zd_X7_choosePath_zd_X5_take_129_0 : GoodIn zw_zd_X7_choosePath zw_zd_X5_take_w0 := goodIn_r _ [241, 39, 242, 243] rfl (by decide +kernel)
theorem zg_zd_X7_choosePath_zd_X5_take_129 : GoodIn zw_zd_X7_choosePath (wsV RX7 129 RX5 yX5_take zw_zd_X5_take) := goodIn_app zg_zd_X7_choosePath_zd_X5_take_129_a (goodIn_ca (a := ((zw_zd_X5_take_w0) ++ wsX50)) (goodIn_ca (a := (zw_zd_X5_take_w0)) (show GoodIn zw_zd_X7_choosePath (.code yX5_take cX5_take 2 none :: (zw_zd_X5_take_w0)) from goodIn_app zg_zd_X7_choosePath_zd_X5_take_129_c (zg_zd_X7_choosePath_zd_X5_take_129_0)) (fun w h => ⟨(fun _ h => List.mem_cons_of_mem _ (List.mem_append_left _ (List.mem_append_left _ (List.mem_append_left _ (List.mem_append_left _ (List.mem_append_left _ (List.mem_append_left _ (List.mem_append_left _ (List.mem_append_left _ (List.mem_append_right _ h)))))))))) w h, good_of_word (List.all_eq_true.mp zgw_X5 w h)⟩)) (fun w h => ⟨(fun _ h => List.mem_cons_of_mem _ (List.mem_append_right _ h)) w h, good_of_word (List.all_eq_true.mp zgw_X1 w h)⟩))
set_option maxHeartbeats 16000000 in
set_option maxRecDepth 100000 in
theorem zd_X7_choosePath (l : Launch) (D : va_G) (cI cZ cP cF : Nat) (q : Nat → Nat → Nat) (S : CST) (sz : Nat) (Post : CST → Prop) (h : wp_X7_choosePath S Post) (hcap : cCap S) : MetV l yX7_choosePath zw_zd_X7_choosePath ({ frames := 5, cells := rmc S, slots := rms S, locals := 129 }) (va_Pc [.ref (q 12 0)] (fun U => U.heap.size = sz ∧ va_P D vwCl (cW cI cZ cP cF q S) U.heap ∧ zF D cI cZ cP cF U ∧ va_D (fun _ => True) (cW cI cZ cP cF q S))) (xQv (fun S' => Post S') (fun (q' : Nat → Nat → Nat) (S' : CST) k n t => va_P D vwCl (cW cI cZ cP cF q' S') t.heap ∧ va_D (va_A (cW cI cZ cP cF q S) sz) (cW cI cZ cP cF q' S') ∧ cA q S q' S' k n) (va_A (cW cI cZ cP cF q S) sz)) (va_A (cW cI cZ cP cF q S) sz) := by
  unfold wp_X7_choosePath at h
  refine MetV.ofW (cc := cX7_choosePath) (maxL := 3) (ret := none) (by decide) rfl ?_
  intro p e s m args below meth c s₁ B hml hv
  obtain ⟨rfl, hsz, hP, hE, hD0⟩ := hv
  have hx := B.exec
  have hb := B.bytes
  have hr := B.returns
  have hts := atoms_spec (ws := zw_zd_X7_choosePath) B.pre
  have hown : s.vm.findClass RX7 = some m.cls := findClass_of_methodNamed B.named
  have hlocks := B.notSynchronized
  have hK := hE.k
  subst hsz
  have hD := hD0.self (sz := s.heap.size)
  generalize hAe : va_A (cW cI cZ cP cF q S) s.heap.size = A at hD ⊢
  have hA : ∀ q : Nat, s.heap.size ≤ q → A q := fun q h => by rw [← hAe]; exact Or.inr h
  have hl := lv_entry ([.ref (q 12 0)]) (n := 3) (Nat.le_of_ble_eq_true rfl)
  rw [lg_entry_eq]
  generalize (lg_sl ([.ref (q 12 0)]) ++ List.replicate (3 - (lg_sl ([.ref (q 12 0)])).length) Slot.unset).toArray = ls at hl ⊢
  have hl : lv_has ls 3 [(0, .ref (q 12 0))] := hl
  have key : ∀ (H : Heap) (locs : List Loc) (cells slots : Nat), va_P D vwCl (cW cI cZ cP cF q S) H → va_S A s.heap H locs → cA q S q S cells slots → W p l e (headSpec zw_zd_X7_choosePath ({ frames := 5, cells := rmc S, slots := rms S, locals := 129 })).room s m ([.ref (q 12 0)] : List Value).toArray below meth c H locs cells slots (MQV below (xQv (fun S' => Post S') (fun (q' : Nat → Nat → Nat) (S' : CST) k n t => va_P D vwCl (cW cI cZ cP cF q' S') t.heap ∧ va_D A (cW cI cZ cP cF q' S') ∧ cA q S q' S' k n) A) ([.ref (q 12 0)] : List Value).toArray s A) (F0 m 0 ls []) := by
    intro H locs cells slots hP hS hN
    have J_55 : ∀ (q_55 : Nat → Nat → Nat) (S_55 : CST) (y55_1 : Nat) (y55_2 : Nat) (H : Heap) (locs : List Loc) (cells slots : Nat) (ls : Array Slot), wj_X7_choosePath_55 S_55 y55_1 y55_2 Post → va_P D vwCl (cW cI cZ cP cF q_55 S_55) H → va_D A (cW cI cZ cP cF q_55 S_55) → va_S A s.heap H locs → cA q S q_55 S_55 cells slots → lv_has ls 3 [(0, .ref (q_55 12 0)), (1, .ref (q_55 22 y55_1)), (2, .ref (q_55 28 y55_2))] → W p l e (headSpec zw_zd_X7_choosePath ({ frames := 5, cells := rmc S, slots := rms S, locals := 129 })).room s m ([.ref (q 12 0)] : List Value).toArray below meth c H locs cells slots (MQV below (xQv (fun S' => Post S') (fun (q' : Nat → Nat → Nat) (S' : CST) k n t => va_P D vwCl (cW cI cZ cP cF q' S') t.heap ∧ va_D A (cW cI cZ cP cF q' S') ∧ cA q S q' S' k n) A) ([.ref (q 12 0)] : List Value).toArray s A) (F0 m 55 ls []) := by
      intro q_55 S_55 y55_1 y55_2 H locs cells slots ls h hP hD hS hN hl
      unfold wj_X7_choosePath_55 at h
      refine lv_aload_n hx hb dX7_choosePath_55 rfl (lv_at hl 2 rfl) ?_
      have hi_1 := h.1
      have h := h.2
      obtain ⟨p_1, hp_1⟩ := cget_28 cI cZ cP cF q_55 S_55 hi_1
      refine va_get (D := D) (ci := 5) (v := .int (cv S_55 280 y55_2 0)) (C := RX5) (T := TX5) (N := 9) hx hb hts (fun _ h => List.mem_cons_of_mem _ (List.mem_append_left _ (List.mem_append_left _ (List.mem_append_left _ (List.mem_append_left _ (List.mem_append_left _ (List.mem_append_left _ (List.mem_append_left _ (List.mem_append_left _ (List.mem_append_right _ h)))))))))) hown hK hP p_1 hp_1 rfl 0 (by decide) (hts (.fieldLink RX7 133 "TemplateForge$Heat" "hasCode" "Z") (List.mem_of_getElem? (i := 1) rfl)) (fun _ h9 => h9) rfl dX7_choosePath_56 ?_
      refine lv_if_eq (tgt := 96) hx hb dX7_choosePath_59 (by decide) (fun c_2 => ?_) (fun c_2 => ?_)
      · have h := h.1 c_2
        refine lv_aload_n hx hb dX7_choosePath_96 rfl (lv_at hl 2 rfl) ?_
        refine lv_aload_n hx hb dX7_choosePath_97 rfl (lv_at hl 1 rfl) ?_
        refine lv_aload_n hx hb dX7_choosePath_98 rfl (lv_at hl 0 rfl) ?_
        obtain ⟨p_3, hp_3⟩ := cget_12 cI cZ cP cF q_55 S_55
        have hi_3 : cin S_55 12 0 := Or.inl ⟨by decide, rfl⟩
        refine va_get (D := D) (ci := 7) (v := .ref (q_55 3 0)) (C := RX7) (T := TX7) (N := 10) hx hb hts (fun _ h => List.mem_cons_of_mem _ (List.mem_append_left _ (List.mem_append_left _ (List.mem_append_left _ (List.mem_append_left _ (List.mem_append_left _ (List.mem_append_left _ (List.mem_append_left _ (List.mem_append_right _ h))))))))) hown hK hP p_3 hp_3 rfl 1 (by decide) (hts (.fieldLink RX7 32 "TemplateForge$Machine" "data" "LTemplateForge$Data;") (List.mem_of_getElem? (i := 2) rfl)) (fun _ h9 => h9) rfl dX7_choosePath_99 ?_
        have hi_4 := h.1
        have h := h.2
        obtain ⟨p_4, hp_4⟩ := cget_28 cI cZ cP cF q_55 S_55 hi_4
        have hFc := zm_free hD hS hA
        refine va_callv (va_runV (As := [.ref (q_55 22 y55_1), .ref (q_55 3 0)]) (rest := []) ⟨hx, hb, hml, hown, hts⟩ (zd_X5_remember l D cI cZ cP cF q_55 S_55 y55_2 y55_1 H.size _ h) (cwV 2 hts zg_zd_X7_choosePath_zd_X5_remember_146 rfl rfl rfl (by decide +kernel) ⟨Nat.le_of_ble_eq_true rfl, Nat.le_of_ble_eq_true rfl⟩) ⟨zCW, va_recv hK hP (ci := 5) (q0 := p_4) rfl hp_4, fun U hU hW => ⟨rfl, by rw [hU], by rw [hU]; exact hP, hE.warm hW, hD.weaken (fun _ _ _ _ => trivial)⟩⟩ rfl rfl hl.1 rfl (lv_room (Nat.le_of_ble_eq_true rfl)) dX7_choosePath_102 (cA_le hN)) hS (fun q _ h => hFc q h) hFc (fun S5 t H locs ht hvm h hB hz1 hk1 hS => ?_)
        obtain ⟨hP, hD1, hN1⟩ := hB
        rw [ht] at hP
        have hD := hD1.weaken (fun k q _ hq => hFc q.1 hq)
        have hN := cA_keep hN hN1
        exact zV_v hx hb hr (fun t ht hW => ⟨⟨q_55, S5, rfl, h, by rw [ht]; exact hP, hD, hN⟩, hS.F ht⟩) hS.2.2 dX7_choosePath_105 hlocks
      · have h := h.2 c_2
        refine lv_aload_n hx hb dX7_choosePath_62 rfl (lv_at hl 1 rfl) ?_
        refine lv_aload_n hx hb dX7_choosePath_63 rfl (lv_at hl 2 rfl) ?_
        have hi_6 := h.1
        have h := h.2
        obtain ⟨p_6, hp_6⟩ := cget_28 cI cZ cP cF q_55 S_55 hi_6
        by_cases hn_7 : (cv S_55 281 y55_2 0) < 0
        · have h := h.1 hn_7
          refine va_get (D := D) (ci := 5) (v := .null) (C := RX5) (T := TX5) (N := 9) hx hb hts (fun _ h => List.mem_cons_of_mem _ (List.mem_append_left _ (List.mem_append_left _ (List.mem_append_left _ (List.mem_append_left _ (List.mem_append_left _ (List.mem_append_left _ (List.mem_append_left _ (List.mem_append_left _ (List.mem_append_right _ h)))))))))) hown hK hP p_6 hp_6 rfl 1 (by decide) (hts (.fieldLink RX7 137 "TemplateForge$Heat" "latest" "LTemplateForge$Code;") (List.mem_of_getElem? (i := 23) rfl)) (fun _ h9 => h9) (congrArg some (cn_neg hn_7)) dX7_choosePath_64 ?_
          have hi_8 := h.1
          have h := h.2
          obtain ⟨p_8, hp_8⟩ := cget_22 cI cZ cP cF q_55 S_55 hi_8
          have hD0_8 := hD
          refine va_put (D := D) (ci := 4) (v := .null) (ty := .object "TemplateForge$Code") (C := RX4) (T := TX4) (N := 5) hx hb hts (fun _ h => List.mem_cons_of_mem _ (List.mem_append_left _ (List.mem_append_left _ (List.mem_append_left _ (List.mem_append_left _ (List.mem_append_left _ (List.mem_append_right _ h))))))) tyX4 tyX4_ok nmX4 hown hK hP hD hS p_8 hp_8 rfl 1 (by decide) (hts (.fieldLink RX7 94 "TemplateForge$Frame" "code" "LTemplateForge$Code;") (List.mem_of_getElem? (i := 24) rfl)) (fun _ h9 => h9) rfl (by decide +kernel) rfl rfl (Nat.le_of_ble_eq_true rfl) dX7_choosePath_67 (fun H locs hP hD hS => ?_)
          obtain ⟨S9, eS9⟩ : ∃ z, z = cs S_55 221 y55_1 (fun _ => (-1)) := ⟨_, rfl⟩
          have hP : va_P D vwCl (cW cI cZ cP cF q_55 S9) H := by rw [eS9, ← cW_put (k := 221) (κ := 22) (i := y55_1) (g := (fun _ => (-1))) rfl hD0_8 hp_8 hi_8, cput_221, show cn q_55 32 (-1) = .null from cn_neg (by decide)]; exact hP
          have hD : va_D A (cW cI cZ cP cF q_55 S9) := by rw [eS9, ← cW_put (k := 221) (κ := 22) (i := y55_1) (g := (fun _ => (-1))) rfl hD0_8 hp_8 hi_8, cput_221, show cn q_55 32 (-1) = .null from cn_neg (by decide)]; exact hD
          have hN := cA_keep hN (S2 := S9) ((congrArg Prod.snd eS9).trans rfl)
          have h := h S9 eS9
          refine lv_aload_n hx hb dX7_choosePath_70 rfl (lv_at hl 2 rfl) ?_
          refine lv_dup hx hb dX7_choosePath_71 rfl ?_
          have hi_10 := h.1
          have h := h.2
          obtain ⟨p_10, hp_10⟩ := cget_28 cI cZ cP cF q_55 S9 hi_10
          refine va_get (D := D) (ci := 5) (v := .int (cv S9 285 y55_2 0)) (C := RX5) (T := TX5) (N := 9) hx hb hts (fun _ h => List.mem_cons_of_mem _ (List.mem_append_left _ (List.mem_append_left _ (List.mem_append_left _ (List.mem_append_left _ (List.mem_append_left _ (List.mem_append_left _ (List.mem_append_left _ (List.mem_append_left _ (List.mem_append_right _ h)))))))))) hown hK hP p_10 hp_10 rfl 5 (by decide) (hts (.fieldLink RX7 140 "TemplateForge$Heat" "ran" "I") (List.mem_of_getElem? (i := 25) rfl)) (fun _ h9 => h9) rfl dX7_choosePath_72 ?_
          refine lv_iconst (v := 1) hx hb dX7_choosePath_75 (by decide) ?_
          refine lv_iadd hx hb dX7_choosePath_76 ?_
          have hi_11 := h.1
          have h := h.2
          obtain ⟨p_11, hp_11⟩ := cget_28 cI cZ cP cF q_55 S9 hi_11
          have hD0_11 := hD
          refine va_put (D := D) (ci := 5) (v := .int ((cv S9 285 y55_2 0) + 1)) (ty := .int) (C := RX5) (T := TX5) (N := 9) hx hb hts (fun _ h => List.mem_cons_of_mem _ (List.mem_append_left _ (List.mem_append_left _ (List.mem_append_left _ (List.mem_append_left _ (List.mem_append_left _ (List.mem_append_left _ (List.mem_append_left _ (List.mem_append_left _ (List.mem_append_right _ h)))))))))) tyX5 tyX5_ok nmX5 hown hK hP hD hS p_11 hp_11 rfl 5 (by decide) (hts (.fieldLink RX7 140 "TemplateForge$Heat" "ran" "I") (List.mem_of_getElem? (i := 25) rfl)) (fun _ h9 => h9) rfl (by decide +kernel) rfl rfl (Nat.le_of_ble_eq_true rfl) dX7_choosePath_77 (fun H locs hP hD hS => ?_)
          obtain ⟨S12, eS12⟩ : ∃ z, z = cs S9 285 y55_2 (fun _ => (cv S9 285 y55_2 0) + 1) := ⟨_, rfl⟩
          have hP : va_P D vwCl (cW cI cZ cP cF q_55 S12) H := by rw [eS12, ← cW_put (k := 285) (κ := 28) (i := y55_2) (g := (fun _ => (cv S9 285 y55_2 0) + 1)) rfl hD0_11 hp_11 hi_11, cput_285]; exact hP
          have hD : va_D A (cW cI cZ cP cF q_55 S12) := by rw [eS12, ← cW_put (k := 285) (κ := 28) (i := y55_2) (g := (fun _ => (cv S9 285 y55_2 0) + 1)) rfl hD0_11 hp_11 hi_11, cput_285]; exact hD
          have hN := cA_keep hN (S2 := S12) ((congrArg Prod.snd eS12).trans rfl)
          have h := h S12 eS12
          refine lv_aload_n hx hb dX7_choosePath_80 rfl (lv_at hl 0 rfl) ?_
          obtain ⟨p_13, hp_13⟩ := cget_12 cI cZ cP cF q_55 S12
          have hi_13 : cin S12 12 0 := Or.inl ⟨by decide, rfl⟩
          refine va_get (D := D) (ci := 7) (v := .ref (q_55 20 0)) (C := RX7) (T := TX7) (N := 10) hx hb hts (fun _ h => List.mem_cons_of_mem _ (List.mem_append_left _ (List.mem_append_left _ (List.mem_append_left _ (List.mem_append_left _ (List.mem_append_left _ (List.mem_append_left _ (List.mem_append_left _ (List.mem_append_right _ h))))))))) hown hK hP p_13 hp_13 rfl 3 (by decide) (hts (.fieldLink RX7 12 "TemplateForge$Machine" "tally" "LTemplateForge$Tally;") (List.mem_of_getElem? (i := 26) rfl)) (fun _ h9 => h9) rfl dX7_choosePath_81 ?_
          refine lv_dup hx hb dX7_choosePath_84 rfl ?_
          obtain ⟨p_14, hp_14⟩ := cget_20 cI cZ cP cF q_55 S12
          have hi_14 : cin S12 20 0 := Or.inl ⟨by decide, rfl⟩
          refine va_get (D := D) (ci := 10) (v := .int (cv S12 203 0 0)) (C := RX10) (T := TX10) (N := 7) hx hb hts (fun _ h => List.mem_cons_of_mem _ (List.mem_append_left _ (List.mem_append_left _ (List.mem_append_left _ (List.mem_append_left _ (List.mem_append_right _ h)))))) hown hK hP p_14 hp_14 rfl 3 (by decide) (hts (.fieldLink RX7 143 "TemplateForge$Tally" "coded" "I") (List.mem_of_getElem? (i := 27) rfl)) (fun _ h9 => h9) rfl dX7_choosePath_85 ?_
          refine lv_iconst (v := 1) hx hb dX7_choosePath_88 (by decide) ?_
          refine lv_iadd hx hb dX7_choosePath_89 ?_
          obtain ⟨p_15, hp_15⟩ := cget_20 cI cZ cP cF q_55 S12
          have hi_15 : cin S12 20 0 := Or.inl ⟨by decide, rfl⟩
          have hD0_15 := hD
          refine va_put (D := D) (ci := 10) (v := .int ((cv S12 203 0 0) + 1)) (ty := .int) (C := RX10) (T := TX10) (N := 7) hx hb hts (fun _ h => List.mem_cons_of_mem _ (List.mem_append_left _ (List.mem_append_left _ (List.mem_append_left _ (List.mem_append_left _ (List.mem_append_right _ h)))))) tyX10 tyX10_ok nmX10 hown hK hP hD hS p_15 hp_15 rfl 3 (by decide) (hts (.fieldLink RX7 143 "TemplateForge$Tally" "coded" "I") (List.mem_of_getElem? (i := 27) rfl)) (fun _ h9 => h9) rfl (by decide +kernel) rfl rfl (Nat.le_of_ble_eq_true rfl) dX7_choosePath_90 (fun H locs hP hD hS => ?_)
          obtain ⟨S16, eS16⟩ : ∃ z, z = cs S12 203 0 (fun _ => (cv S12 203 0 0) + 1) := ⟨_, rfl⟩
          have hP : va_P D vwCl (cW cI cZ cP cF q_55 S16) H := by rw [eS16, ← cW_put (k := 203) (κ := 20) (i := 0) (g := (fun _ => (cv S12 203 0 0) + 1)) rfl hD0_15 hp_15 hi_15, cput_203]; exact hP
          have hD : va_D A (cW cI cZ cP cF q_55 S16) := by rw [eS16, ← cW_put (k := 203) (κ := 20) (i := 0) (g := (fun _ => (cv S12 203 0 0) + 1)) rfl hD0_15 hp_15 hi_15, cput_203]; exact hD
          have hN := cA_keep hN (S2 := S16) ((congrArg Prod.snd eS16).trans rfl)
          have h := h S16 eS16
          refine lv_goto (tgt := 105) hx hb dX7_choosePath_93 (by decide) ?_
          exact zV_v hx hb hr (fun t ht hW => ⟨⟨q_55, S16, rfl, h, by rw [ht]; exact hP, hD, hN⟩, hS.F ht⟩) hS.2.2 dX7_choosePath_105 hlocks
        · have h := h.2 hn_7
          refine va_get (D := D) (ci := 5) (v := .ref (q_55 32 ((cv S_55 281 y55_2 0) : Int32).toNatClampNeg)) (C := RX5) (T := TX5) (N := 9) hx hb hts (fun _ h => List.mem_cons_of_mem _ (List.mem_append_left _ (List.mem_append_left _ (List.mem_append_left _ (List.mem_append_left _ (List.mem_append_left _ (List.mem_append_left _ (List.mem_append_left _ (List.mem_append_left _ (List.mem_append_right _ h)))))))))) hown hK hP p_6 hp_6 rfl 1 (by decide) (hts (.fieldLink RX7 137 "TemplateForge$Heat" "latest" "LTemplateForge$Code;") (List.mem_of_getElem? (i := 23) rfl)) (fun _ h9 => h9) (congrArg some (cn_pos hn_7)) dX7_choosePath_64 ?_
          have hi_17 := h.1
          have h := h.2
          obtain ⟨p_17, hp_17⟩ := cget_22 cI cZ cP cF q_55 S_55 hi_17
          have hD0_17 := hD
          refine va_put (D := D) (ci := 4) (v := .ref (q_55 32 (((cv S_55 281 y55_2 0) : Int32).toNatClampNeg))) (ty := .object "TemplateForge$Code") (C := RX4) (T := TX4) (N := 5) hx hb hts (fun _ h => List.mem_cons_of_mem _ (List.mem_append_left _ (List.mem_append_left _ (List.mem_append_left _ (List.mem_append_left _ (List.mem_append_left _ (List.mem_append_right _ h))))))) tyX4 tyX4_ok nmX4 hown hK hP hD hS p_17 hp_17 rfl 1 (by decide) (hts (.fieldLink RX7 94 "TemplateForge$Frame" "code" "LTemplateForge$Code;") (List.mem_of_getElem? (i := 24) rfl)) (fun _ h9 => h9) rfl (by decide +kernel) rfl rfl (Nat.le_of_ble_eq_true rfl) dX7_choosePath_67 (fun H locs hP hD hS => ?_)
          obtain ⟨S18, eS18⟩ : ∃ z, z = cs S_55 221 y55_1 (fun _ => (cv S_55 281 y55_2 0)) := ⟨_, rfl⟩
          have hP : va_P D vwCl (cW cI cZ cP cF q_55 S18) H := by rw [eS18, ← cW_put (k := 221) (κ := 22) (i := y55_1) (g := (fun _ => (cv S_55 281 y55_2 0))) rfl hD0_17 hp_17 hi_17, cput_221, show cn q_55 32 (cv S_55 281 y55_2 0) = .ref (q_55 32 (((cv S_55 281 y55_2 0) : Int32).toNatClampNeg)) from cn_pos hn_7]; exact hP
          have hD : va_D A (cW cI cZ cP cF q_55 S18) := by rw [eS18, ← cW_put (k := 221) (κ := 22) (i := y55_1) (g := (fun _ => (cv S_55 281 y55_2 0))) rfl hD0_17 hp_17 hi_17, cput_221, show cn q_55 32 (cv S_55 281 y55_2 0) = .ref (q_55 32 (((cv S_55 281 y55_2 0) : Int32).toNatClampNeg)) from cn_pos hn_7]; exact hD
          have hN := cA_keep hN (S2 := S18) ((congrArg Prod.snd eS18).trans rfl)
          have h := h S18 eS18
          refine lv_aload_n hx hb dX7_choosePath_70 rfl (lv_at hl 2 rfl) ?_
          refine lv_dup hx hb dX7_choosePath_71 rfl ?_
          have hi_19 := h.1
          have h := h.2
          obtain ⟨p_19, hp_19⟩ := cget_28 cI cZ cP cF q_55 S18 hi_19
          refine va_get (D := D) (ci := 5) (v := .int (cv S18 285 y55_2 0)) (C := RX5) (T := TX5) (N := 9) hx hb hts (fun _ h => List.mem_cons_of_mem _ (List.mem_append_left _ (List.mem_append_left _ (List.mem_append_left _ (List.mem_append_left _ (List.mem_append_left _ (List.mem_append_left _ (List.mem_append_left _ (List.mem_append_left _ (List.mem_append_right _ h)))))))))) hown hK hP p_19 hp_19 rfl 5 (by decide) (hts (.fieldLink RX7 140 "TemplateForge$Heat" "ran" "I") (List.mem_of_getElem? (i := 25) rfl)) (fun _ h9 => h9) rfl dX7_choosePath_72 ?_
          refine lv_iconst (v := 1) hx hb dX7_choosePath_75 (by decide) ?_
          refine lv_iadd hx hb dX7_choosePath_76 ?_
          have hi_20 := h.1
          have h := h.2
          obtain ⟨p_20, hp_20⟩ := cget_28 cI cZ cP cF q_55 S18 hi_20
          have hD0_20 := hD
          refine va_put (D := D) (ci := 5) (v := .int ((cv S18 285 y55_2 0) + 1)) (ty := .int) (C := RX5) (T := TX5) (N := 9) hx hb hts (fun _ h => List.mem_cons_of_mem _ (List.mem_append_left _ (List.mem_append_left _ (List.mem_append_left _ (List.mem_append_left _ (List.mem_append_left _ (List.mem_append_left _ (List.mem_append_left _ (List.mem_append_left _ (List.mem_append_right _ h)))))))))) tyX5 tyX5_ok nmX5 hown hK hP hD hS p_20 hp_20 rfl 5 (by decide) (hts (.fieldLink RX7 140 "TemplateForge$Heat" "ran" "I") (List.mem_of_getElem? (i := 25) rfl)) (fun _ h9 => h9) rfl (by decide +kernel) rfl rfl (Nat.le_of_ble_eq_true rfl) dX7_choosePath_77 (fun H locs hP hD hS => ?_)
          obtain ⟨S21, eS21⟩ : ∃ z, z = cs S18 285 y55_2 (fun _ => (cv S18 285 y55_2 0) + 1) := ⟨_, rfl⟩
          have hP : va_P D vwCl (cW cI cZ cP cF q_55 S21) H := by rw [eS21, ← cW_put (k := 285) (κ := 28) (i := y55_2) (g := (fun _ => (cv S18 285 y55_2 0) + 1)) rfl hD0_20 hp_20 hi_20, cput_285]; exact hP
          have hD : va_D A (cW cI cZ cP cF q_55 S21) := by rw [eS21, ← cW_put (k := 285) (κ := 28) (i := y55_2) (g := (fun _ => (cv S18 285 y55_2 0) + 1)) rfl hD0_20 hp_20 hi_20, cput_285]; exact hD
          have hN := cA_keep hN (S2 := S21) ((congrArg Prod.snd eS21).trans rfl)
          have h := h S21 eS21
          refine lv_aload_n hx hb dX7_choosePath_80 rfl (lv_at hl 0 rfl) ?_
          obtain ⟨p_22, hp_22⟩ := cget_12 cI cZ cP cF q_55 S21
          have hi_22 : cin S21 12 0 := Or.inl ⟨by decide, rfl⟩
          refine va_get (D := D) (ci := 7) (v := .ref (q_55 20 0)) (C := RX7) (T := TX7) (N := 10) hx hb hts (fun _ h => List.mem_cons_of_mem _ (List.mem_append_left _ (List.mem_append_left _ (List.mem_append_left _ (List.mem_append_left _ (List.mem_append_left _ (List.mem_append_left _ (List.mem_append_left _ (List.mem_append_right _ h))))))))) hown hK hP p_22 hp_22 rfl 3 (by decide) (hts (.fieldLink RX7 12 "TemplateForge$Machine" "tally" "LTemplateForge$Tally;") (List.mem_of_getElem? (i := 26) rfl)) (fun _ h9 => h9) rfl dX7_choosePath_81 ?_
          refine lv_dup hx hb dX7_choosePath_84 rfl ?_
          obtain ⟨p_23, hp_23⟩ := cget_20 cI cZ cP cF q_55 S21
          have hi_23 : cin S21 20 0 := Or.inl ⟨by decide, rfl⟩
          refine va_get (D := D) (ci := 10) (v := .int (cv S21 203 0 0)) (C := RX10) (T := TX10) (N := 7) hx hb hts (fun _ h => List.mem_cons_of_mem _ (List.mem_append_left _ (List.mem_append_left _ (List.mem_append_left _ (List.mem_append_left _ (List.mem_append_right _ h)))))) hown hK hP p_23 hp_23 rfl 3 (by decide) (hts (.fieldLink RX7 143 "TemplateForge$Tally" "coded" "I") (List.mem_of_getElem? (i := 27) rfl)) (fun _ h9 => h9) rfl dX7_choosePath_85 ?_
          refine lv_iconst (v := 1) hx hb dX7_choosePath_88 (by decide) ?_
          refine lv_iadd hx hb dX7_choosePath_89 ?_
          obtain ⟨p_24, hp_24⟩ := cget_20 cI cZ cP cF q_55 S21
          have hi_24 : cin S21 20 0 := Or.inl ⟨by decide, rfl⟩
          have hD0_24 := hD
          refine va_put (D := D) (ci := 10) (v := .int ((cv S21 203 0 0) + 1)) (ty := .int) (C := RX10) (T := TX10) (N := 7) hx hb hts (fun _ h => List.mem_cons_of_mem _ (List.mem_append_left _ (List.mem_append_left _ (List.mem_append_left _ (List.mem_append_left _ (List.mem_append_right _ h)))))) tyX10 tyX10_ok nmX10 hown hK hP hD hS p_24 hp_24 rfl 3 (by decide) (hts (.fieldLink RX7 143 "TemplateForge$Tally" "coded" "I") (List.mem_of_getElem? (i := 27) rfl)) (fun _ h9 => h9) rfl (by decide +kernel) rfl rfl (Nat.le_of_ble_eq_true rfl) dX7_choosePath_90 (fun H locs hP hD hS => ?_)
          obtain ⟨S25, eS25⟩ : ∃ z, z = cs S21 203 0 (fun _ => (cv S21 203 0 0) + 1) := ⟨_, rfl⟩
          have hP : va_P D vwCl (cW cI cZ cP cF q_55 S25) H := by rw [eS25, ← cW_put (k := 203) (κ := 20) (i := 0) (g := (fun _ => (cv S21 203 0 0) + 1)) rfl hD0_24 hp_24 hi_24, cput_203]; exact hP
          have hD : va_D A (cW cI cZ cP cF q_55 S25) := by rw [eS25, ← cW_put (k := 203) (κ := 20) (i := 0) (g := (fun _ => (cv S21 203 0 0) + 1)) rfl hD0_24 hp_24 hi_24, cput_203]; exact hD
          have hN := cA_keep hN (S2 := S25) ((congrArg Prod.snd eS25).trans rfl)
          have h := h S25 eS25
          refine lv_goto (tgt := 105) hx hb dX7_choosePath_93 (by decide) ?_
          exact zV_v hx hb hr (fun t ht hW => ⟨⟨q_55, S25, rfl, h, by rw [ht]; exact hP, hD, hN⟩, hS.F ht⟩) hS.2.2 dX7_choosePath_105 hlocks
    refine lv_aload_n hx hb dX7_choosePath_0 rfl (lv_at hl 0 rfl) ?_
    obtain ⟨p_26, hp_26⟩ := cget_12 cI cZ cP cF q S
    have hi_26 : cin S 12 0 := Or.inl ⟨by decide, rfl⟩
    refine va_csq (va_Run.run (va_runV (As := []) (rest := []) ⟨hx, hb, hml, hown, hts⟩ (zd_X7_latestFrame l D cI cZ cP cF q S   _ h) (cwV 0 hts zg_zd_X7_choosePath_zd_X7_latestFrame_111 rfl rfl rfl (by decide +kernel) ⟨Nat.le_of_ble_eq_true rfl, Nat.le_of_ble_eq_true rfl⟩) ⟨zCR, va_recv hK hP (ci := 7) (q0 := p_26) rfl hp_26, fun U hU hW => ⟨rfl, by rw [hU]; exact hP, hE.warm hW⟩⟩ rfl rfl hl.1 rfl (lv_room (Nat.le_of_ble_eq_true rfl)) dX7_choosePath_1 (cA_le hN))) (fun o_27 ho_27 => ?_)
    obtain ⟨r27, rfl, h⟩ := ho_27
    by_cases hn_28 : r27 < 0
    · have h := h.1 hn_28
      rw [show va_rf (cno q 22 r27) = .null from cn_neg hn_28]
      refine lv_astore_nN (lv' := [(1, .null), (0, .ref (q 12 0))]) hx hb dX7_choosePath_4 rfl hl (by decide) rfl (fun ls hl => ?_)
      refine lv_aload_n hx hb dX7_choosePath_5 rfl (lv_at hl 1 rfl) ?_
      obtain ⟨p_29, hp_29⟩ := cget_12 cI cZ cP cF q S
      have hi_29 : cin S 12 0 := Or.inl ⟨by decide, rfl⟩
      refine va_get (D := D) (ci := 7) (v := .int (cv S 127 0 0)) (C := RX7) (T := TX7) (N := 10) hx hb hts (fun _ h => List.mem_cons_of_mem _ (List.mem_append_left _ (List.mem_append_left _ (List.mem_append_left _ (List.mem_append_left _ (List.mem_append_left _ (List.mem_append_left _ (List.mem_append_left _ (List.mem_append_right _ h))))))))) hown hK hP p_29 hp_29 rfl 7 (by decide) (hts (.fieldLink RX7 53 "TemplateForge$Machine" "ending" "I") (List.mem_of_getElem? (i := 35) rfl)) (fun _ h9 => h9) rfl dX7_choosePath_6 ?_
      refine lv_iconst (v := 4) hx hb dX7_choosePath_9 (by decide) ?_
      refine lv_icmp_ne (tgt := 24) hx hb dX7_choosePath_10 (by decide) (fun c_30 => ?_) (fun c_30 => ?_)
      · have h := h.1 c_30
        exact zV_v hx hb hr (fun t ht hW => ⟨⟨q, S, rfl, h, by rw [ht]; exact hP, hD, hN⟩, hS.F ht⟩) hS.2.2 dX7_choosePath_24 hlocks
      · have h := h.2 c_30
        refine lv_aload_nN hx hb dX7_choosePath_13 rfl (lv_at hl 0 rfl) ?_
        refine lv_ifnullN (tgt := 24) hx hb dX7_choosePath_14 (by decide) ?_
        exact zV_v hx hb hr (fun t ht hW => ⟨⟨q, S, rfl, h, by rw [ht]; exact hP, hD, hN⟩, hS.F ht⟩) hS.2.2 dX7_choosePath_24 hlocks
    · have h := h.2 hn_28
      rw [show va_rf (cno q 22 r27) = .ref (q 22 (r27 : Int32).toNatClampNeg) from cn_pos hn_28]
      refine lv_astore_n (lv' := [(1, .ref (q 22 ((r27 : Int32).toNatClampNeg))), (0, .ref (q 12 0))]) hx hb dX7_choosePath_4 rfl hl (by decide) rfl (fun ls hl => ?_)
      refine lv_aload_n hx hb dX7_choosePath_5 rfl (lv_at hl 1 rfl) ?_
      obtain ⟨p_31, hp_31⟩ := cget_12 cI cZ cP cF q S
      have hi_31 : cin S 12 0 := Or.inl ⟨by decide, rfl⟩
      refine va_get (D := D) (ci := 7) (v := .int (cv S 127 0 0)) (C := RX7) (T := TX7) (N := 10) hx hb hts (fun _ h => List.mem_cons_of_mem _ (List.mem_append_left _ (List.mem_append_left _ (List.mem_append_left _ (List.mem_append_left _ (List.mem_append_left _ (List.mem_append_left _ (List.mem_append_left _ (List.mem_append_right _ h))))))))) hown hK hP p_31 hp_31 rfl 7 (by decide) (hts (.fieldLink RX7 53 "TemplateForge$Machine" "ending" "I") (List.mem_of_getElem? (i := 35) rfl)) (fun _ h9 => h9) rfl dX7_choosePath_6 ?_
      refine lv_iconst (v := 4) hx hb dX7_choosePath_9 (by decide) ?_
      refine lv_icmp_ne (tgt := 24) hx hb dX7_choosePath_10 (by decide) (fun c_32 => ?_) (fun c_32 => ?_)
      · have h := h.1 c_32
        exact zV_v hx hb hr (fun t ht hW => ⟨⟨q, S, rfl, h, by rw [ht]; exact hP, hD, hN⟩, hS.F ht⟩) hS.2.2 dX7_choosePath_24 hlocks
      · have h := h.2 c_32
        refine lv_aload_n hx hb dX7_choosePath_13 rfl (lv_at hl 0 rfl) ?_
        refine lv_ifnull hx hb dX7_choosePath_14 ?_
        refine lv_aload_n hx hb dX7_choosePath_17 rfl (lv_at hl 0 rfl) ?_
        have hi_33 := h.1
        have h := h.2
        obtain ⟨p_33, hp_33⟩ := cget_22 cI cZ cP cF q S hi_33
        by_cases hn_34 : (cv S 220 ((r27 : Int32).toNatClampNeg) 0) < 0
        · have h := h.1 hn_34
          refine va_get (D := D) (ci := 4) (v := .null) (C := RX4) (T := TX4) (N := 5) hx hb hts (fun _ h => List.mem_cons_of_mem _ (List.mem_append_left _ (List.mem_append_left _ (List.mem_append_left _ (List.mem_append_left _ (List.mem_append_left _ (List.mem_append_right _ h))))))) hown hK hP p_33 hp_33 rfl 0 (by decide) (hts (.fieldLink RX7 84 "TemplateForge$Frame" "program" "LTemplateForge$Program;") (List.mem_of_getElem? (i := 36) rfl)) (fun _ h9 => h9) (congrArg some (cn_neg hn_34)) dX7_choosePath_18 ?_
          refine lv_ifnonnullN hx hb dX7_choosePath_21 ?_
          exact zV_v hx hb hr (fun t ht hW => ⟨⟨q, S, rfl, h, by rw [ht]; exact hP, hD, hN⟩, hS.F ht⟩) hS.2.2 dX7_choosePath_24 hlocks
        · have h := h.2 hn_34
          refine va_get (D := D) (ci := 4) (v := .ref (q 24 ((cv S 220 ((r27 : Int32).toNatClampNeg) 0) : Int32).toNatClampNeg)) (C := RX4) (T := TX4) (N := 5) hx hb hts (fun _ h => List.mem_cons_of_mem _ (List.mem_append_left _ (List.mem_append_left _ (List.mem_append_left _ (List.mem_append_left _ (List.mem_append_left _ (List.mem_append_right _ h))))))) hown hK hP p_33 hp_33 rfl 0 (by decide) (hts (.fieldLink RX7 84 "TemplateForge$Frame" "program" "LTemplateForge$Program;") (List.mem_of_getElem? (i := 36) rfl)) (fun _ h9 => h9) (congrArg some (cn_pos hn_34)) dX7_choosePath_18 ?_
          refine lv_ifnonnull (tgt := 25) hx hb dX7_choosePath_21 (by decide) ?_
          refine lv_aload_n hx hb dX7_choosePath_25 rfl (lv_at hl 0 rfl) ?_
          have hi_35 := h.1
          have h := h.2
          obtain ⟨p_35, hp_35⟩ := cget_22 cI cZ cP cF q S hi_35
          by_cases hn_36 : (cv S 220 ((r27 : Int32).toNatClampNeg) 0) < 0
          · have h := h.1 hn_36
            refine va_get (D := D) (ci := 4) (v := .null) (C := RX4) (T := TX4) (N := 5) hx hb hts (fun _ h => List.mem_cons_of_mem _ (List.mem_append_left _ (List.mem_append_left _ (List.mem_append_left _ (List.mem_append_left _ (List.mem_append_left _ (List.mem_append_right _ h))))))) hown hK hP p_35 hp_35 rfl 0 (by decide) (hts (.fieldLink RX7 84 "TemplateForge$Frame" "program" "LTemplateForge$Program;") (List.mem_of_getElem? (i := 36) rfl)) (fun _ h9 => h9) (congrArg some (cn_neg hn_36)) dX7_choosePath_26 ?_
            exact h.elim
          · have h := h.2 hn_36
            refine va_get (D := D) (ci := 4) (v := .ref (q 24 ((cv S 220 ((r27 : Int32).toNatClampNeg) 0) : Int32).toNatClampNeg)) (C := RX4) (T := TX4) (N := 5) hx hb hts (fun _ h => List.mem_cons_of_mem _ (List.mem_append_left _ (List.mem_append_left _ (List.mem_append_left _ (List.mem_append_left _ (List.mem_append_left _ (List.mem_append_right _ h))))))) hown hK hP p_35 hp_35 rfl 0 (by decide) (hts (.fieldLink RX7 84 "TemplateForge$Frame" "program" "LTemplateForge$Program;") (List.mem_of_getElem? (i := 36) rfl)) (fun _ h9 => h9) (congrArg some (cn_pos hn_36)) dX7_choosePath_26 ?_
            have hi_37 := h.1
            have h := h.2
            obtain ⟨p_37, hp_37⟩ := cget_24 cI cZ cP cF q S hi_37
            refine va_get (D := D) (ci := 8) (v := .ref (q 28 (((cv S 220 ((r27 : Int32).toNatClampNeg) 0) : Int32).toNatClampNeg))) (C := RX8) (T := TX8) (N := 10) hx hb hts (fun _ h => List.mem_cons_of_mem _ (List.mem_append_left _ (List.mem_append_left _ (List.mem_append_left _ (List.mem_append_right _ h))))) hown hK hP p_37 hp_37 rfl 3 (by decide) (hts (.fieldLink RX7 115 "TemplateForge$Program" "heat" "LTemplateForge$Heat;") (List.mem_of_getElem? (i := 37) rfl)) (fun _ h9 => h9) rfl dX7_choosePath_29 ?_
            refine lv_astore_n (lv' := [(2, .ref (q 28 (((cv S 220 ((r27 : Int32).toNatClampNeg) 0) : Int32).toNatClampNeg))), (1, .ref (q 22 ((r27 : Int32).toNatClampNeg))), (0, .ref (q 12 0))]) hx hb dX7_choosePath_32 rfl hl (by decide) rfl (fun ls hl => ?_)
            refine lv_aload_n hx hb dX7_choosePath_33 rfl (lv_at hl 0 rfl) ?_
            have hi_38 := h.1
            have h := h.2
            obtain ⟨p_38, hp_38⟩ := cget_28 cI cZ cP cF q S hi_38
            refine vp_callSi (va_Run.run (va_runV (As := []) (rest := []) ⟨hx, hb, hml, hown, hts⟩ (zd_X5_isHot l D cI cZ cP cF q S (((cv S 220 ((r27 : Int32).toNatClampNeg) 0) : Int32).toNatClampNeg)  _ h) (cwV 0 hts zg_zd_X7_choosePath_zd_X5_isHot_119 rfl rfl rfl (by decide +kernel) ⟨Nat.le_of_ble_eq_true rfl, Nat.le_of_ble_eq_true rfl⟩) ⟨zCR, va_recv hK hP (ci := 5) (q0 := p_38) rfl hp_38, fun U hU hW => ⟨rfl, by rw [hU]; exact hP, hE.warm hW⟩⟩ rfl rfl hl.1 rfl (lv_room (Nat.le_of_ble_eq_true rfl)) dX7_choosePath_34 (cA_le hN))) (fun r39 h => ?_)
            refine lv_if_eq (tgt := 55) hx hb dX7_choosePath_37 (by decide) (fun c_40 => ?_) (fun c_40 => ?_)
            · have h := h.1 c_40
              exact J_55  q S ((r27 : Int32).toNatClampNeg) (((cv S 220 ((r27 : Int32).toNatClampNeg) 0) : Int32).toNatClampNeg) H locs _ _ _ h hP hD hS hN (lv_sub hl [2, 1, 0] rfl)
            · have h := h.2 c_40
              refine lv_aload_n hx hb dX7_choosePath_40 rfl (lv_at hl 0 rfl) ?_
              refine lv_aload_n hx hb dX7_choosePath_41 rfl (lv_at hl 2 rfl) ?_
              obtain ⟨p_41, hp_41⟩ := cget_12 cI cZ cP cF q S
              have hi_41 : cin S 12 0 := Or.inl ⟨by decide, rfl⟩
              refine va_get (D := D) (ci := 7) (v := .ref (q 15 0)) (C := RX7) (T := TX7) (N := 10) hx hb hts (fun _ h => List.mem_cons_of_mem _ (List.mem_append_left _ (List.mem_append_left _ (List.mem_append_left _ (List.mem_append_left _ (List.mem_append_left _ (List.mem_append_left _ (List.mem_append_left _ (List.mem_append_right _ h))))))))) hown hK hP p_41 hp_41 rfl 2 (by decide) (hts (.fieldLink RX7 41 "TemplateForge$Machine" "smith" "LTemplateForge$Smith;") (List.mem_of_getElem? (i := 43) rfl)) (fun _ h9 => h9) rfl dX7_choosePath_42 ?_
              refine lv_aload_n hx hb dX7_choosePath_45 rfl (lv_at hl 1 rfl) ?_
              have hi_42 := h.1
              have h := h.2
              obtain ⟨p_42, hp_42⟩ := cget_22 cI cZ cP cF q S hi_42
              by_cases hn_43 : (cv S 220 ((r27 : Int32).toNatClampNeg) 0) < 0
              · have h := h.1 hn_43
                refine va_get (D := D) (ci := 4) (v := .null) (C := RX4) (T := TX4) (N := 5) hx hb hts (fun _ h => List.mem_cons_of_mem _ (List.mem_append_left _ (List.mem_append_left _ (List.mem_append_left _ (List.mem_append_left _ (List.mem_append_left _ (List.mem_append_right _ h))))))) hown hK hP p_42 hp_42 rfl 0 (by decide) (hts (.fieldLink RX7 84 "TemplateForge$Frame" "program" "LTemplateForge$Program;") (List.mem_of_getElem? (i := 36) rfl)) (fun _ h9 => h9) (congrArg some (cn_neg hn_43)) dX7_choosePath_46 ?_
                exact h.elim
              · have h := h.2 hn_43
                refine va_get (D := D) (ci := 4) (v := .ref (q 24 ((cv S 220 ((r27 : Int32).toNatClampNeg) 0) : Int32).toNatClampNeg)) (C := RX4) (T := TX4) (N := 5) hx hb hts (fun _ h => List.mem_cons_of_mem _ (List.mem_append_left _ (List.mem_append_left _ (List.mem_append_left _ (List.mem_append_left _ (List.mem_append_left _ (List.mem_append_right _ h))))))) hown hK hP p_42 hp_42 rfl 0 (by decide) (hts (.fieldLink RX7 84 "TemplateForge$Frame" "program" "LTemplateForge$Program;") (List.mem_of_getElem? (i := 36) rfl)) (fun _ h9 => h9) (congrArg some (cn_pos hn_43)) dX7_choosePath_46 ?_
                obtain ⟨p_44, hp_44⟩ := cget_15 cI cZ cP cF q S
                have hi_44 : cin S 15 0 := Or.inl ⟨by decide, rfl⟩
                have hc_45 := h.1
                have h := h.2
                have hc_46 := h.1
                have h := h.2
                have hFc := zm_free hD hS hA
                refine xc_c (z_runV (As := [.ref (q 24 (((cv S 220 ((r27 : Int32).toNatClampNeg) 0) : Int32).toNatClampNeg))]) (rest := [.ref (q 28 (((cv S 220 ((r27 : Int32).toNatClampNeg) 0) : Int32).toNatClampNeg))]) ⟨hx, hb, hml, hown, hts⟩ (zd_X9_forge l D cI cZ cP cF q S (((cv S 220 ((r27 : Int32).toNatClampNeg) 0) : Int32).toNatClampNeg) H.size _ h (cA_cap hN)) (cwV 1 hts zg_zd_X7_choosePath_zd_X9_forge_125 rfl rfl rfl (by decide +kernel) ⟨Nat.le_of_ble_eq_true rfl, Nat.le_of_ble_eq_true rfl⟩) ⟨zCW, va_recv hK hP (ci := 9) (q0 := p_44) rfl hp_44, fun U hU hW => ⟨rfl, by rw [hU], by rw [hU]; exact hP, hE.warm hW, hD.weaken (fun _ _ _ _ => trivial)⟩⟩ rfl rfl hl.1 rfl (lv_room (Nat.le_of_ble_eq_true rfl)) dX7_choosePath_49 (cA_room hN)) hS (fun q _ h => hFc q h) hFc (fun r48 q48 S48 k n t H locs ht hvm h hB hz1 hk1 hS => ?_)
                obtain ⟨hP, hD1, hN1⟩ := hB
                rw [ht] at hP
                have hD := hD1.weaken (fun k q _ hq => hFc q.1 hq)
                have e_45 : q48 28 (((cv S 220 ((r27 : Int32).toNatClampNeg) 0) : Int32).toNatClampNeg) = q 28 (((cv S 220 ((r27 : Int32).toNatClampNeg) 0) : Int32).toNatClampNeg) := hN1.1 28 (((cv S 220 ((r27 : Int32).toNatClampNeg) 0) : Int32).toNatClampNeg) hc_45
                have e_46 : q48 22 ((r27 : Int32).toNatClampNeg) = q 22 ((r27 : Int32).toNatClampNeg) := hN1.1 22 ((r27 : Int32).toNatClampNeg) hc_46
                have e_47 : q48 12 0 = q 12 0 := hN1.1 12 0 (Or.inl ⟨by decide, rfl⟩)
                have hN := cA_step hN hN1.1 hN1.2
                have hl : lv_has ls 3 [(2, .ref (q48 28 (((cv S 220 ((r27 : Int32).toNatClampNeg) 0) : Int32).toNatClampNeg))), (1, .ref (q48 22 ((r27 : Int32).toNatClampNeg))), (0, .ref (q48 12 0))] := by simp only [e_45, e_46, e_47]; exact hl
                refine W.eq (g2 := F0 m 52 ls [.ref (q48 32 r48), .ref (q48 28 (((cv S 220 ((r27 : Int32).toNatClampNeg) 0) : Int32).toNatClampNeg))]) (by simp only [e_45, e_46, e_47] <;> rfl) ?_
                have hi_49 := h.1
                have h := h.2
                obtain ⟨p_49, hp_49⟩ := cget_28 cI cZ cP cF q48 S48 hi_49
                have hFc := zm_free hD hS hA
                refine va_callv (va_runV (As := [.ref (q48 32 r48)]) (rest := []) ⟨hx, hb, hml, hown, hts⟩ (zd_X5_take l D cI cZ cP cF q48 S48 (((cv S 220 ((r27 : Int32).toNatClampNeg) 0) : Int32).toNatClampNeg) r48 H.size _ h) (cwV 1 hts zg_zd_X7_choosePath_zd_X5_take_129 rfl rfl rfl (by decide +kernel) ⟨Nat.le_of_ble_eq_true rfl, Nat.le_of_ble_eq_true rfl⟩) ⟨zCW, va_recv hK hP (ci := 5) (q0 := p_49) rfl hp_49, fun U hU hW => ⟨rfl, by rw [hU], by rw [hU]; exact hP, hE.warm hW, hD.weaken (fun _ _ _ _ => trivial)⟩⟩ rfl rfl hl.1 rfl (lv_room (Nat.le_of_ble_eq_true rfl)) dX7_choosePath_52 (cA_le hN)) hS (fun q _ h => hFc q h) hFc (fun S50 t H locs ht hvm h hB hz1 hk1 hS => ?_)
                obtain ⟨hP, hD1, hN1⟩ := hB
                rw [ht] at hP
                have hD := hD1.weaken (fun k q _ hq => hFc q.1 hq)
                have hN := cA_keep hN hN1
                exact J_55  q48 S50 ((r27 : Int32).toNatClampNeg) (((cv S 220 ((r27 : Int32).toNatClampNeg) 0) : Int32).toNatClampNeg) H locs _ _ _ h hP hD hS hN (lv_sub hl [2, 1, 0] rfl)
  exact key _ _ 0 0 hP va_S.rf (cA_rf hcap)

def wl_X7_go_52 (K_96 : CST → Prop) (Post : CST → Int32 → Prop) : Nat → CST → Int32 → Prop
  | 0, _, _ => False
  | n_52 + 1, S_52, x52_5 => ((4000000 ≤ x52_5) → ((K_96 S_52 ))) ∧ ((¬ (4000000 ≤ x52_5)) → (((¬ (((cv S_52 127 0 0) : Int32) = 4)) → ((K_96 S_52 ))) ∧ ((((cv S_52 127 0 0) : Int32) = 4) → (((¬ (((cv S_52 128 0 0) : Int32) = (-1))) → (wp_X7_begin S_52  (fun S30 => wp_X7_choosePath S30  (fun S33 => wl_X7_go_52 K_96 Post n_52 S33 (x52_5 + 1))))) ∧ ((((cv S_52 128 0 0) : Int32) = (-1)) → (wp_X7_turn S_52  (fun S35 => wl_X7_go_52 K_96 Post n_52 S35 (x52_5 + 1))))))))
def wp_X7_go (S : CST) (a1 : Int32) (a2 : Int32) (a3 : Int32) (a4 : Int32) (Post : CST → Int32 → Prop) : Prop :=
  wp_X10_beginRun S  (fun S3 => ∀ S5 : CST, S5 = cs S3 126 0 (fun _ => 0) → (∀ S7 : CST, S7 = cs S5 127 0 (fun _ => 4) → (∀ S9 : CST, S9 = cs S7 128 0 (fun _ => a1) → (∀ S11 : CST, S11 = cs S9 129 0 (fun _ => 0) → (vp_in 0 3 ∧ (∀ S14 : CST, S14 = cs S11 140 0 (upd (cv S11 140 0) (0 : Int32).toNatClampNeg a2) → (vp_in 1 3 ∧ (∀ S17 : CST, S17 = cs S14 140 0 (upd (cv S14 140 0) (1 : Int32).toNatClampNeg a3) → (vp_in 2 3 ∧ (∀ S20 : CST, S20 = cs S17 140 0 (upd (cv S17 140 0) (2 : Int32).toNatClampNeg a4) → (∃ n_52, wl_X7_go_52 (fun S_96 => ((¬ (((cv S_96 127 0 0) : Int32) = 4)) → (Post S_96 (cv S_96 127 0 0))) ∧ ((((cv S_96 127 0 0) : Int32) = 4) → (Post S_96 3))) Post n_52 S20 0)))))))))))
def zw_zd_X7_go_w0 : List Cond := [.fieldLink RX7 12 "TemplateForge$Machine" "tally" "LTemplateForge$Tally;", .code yX10_beginRun cX10_beginRun 1 none, .fieldLink RX10 15 "TemplateForge$Tally" "runs" "I", .fieldLink RX10 19 "TemplateForge$Tally" "steps" "I", .fieldLink RX10 22 "TemplateForge$Tally" "calls" "I", .fieldLink RX10 25 "TemplateForge$Tally" "coded" "I", .fieldLink RX10 28 "TemplateForge$Tally" "failed" "I", .fieldLink RX10 31 "TemplateForge$Tally" "returned" "I", .code yX10_noteTrap cX10_noteTrap 5 none, .fieldLink RX10 9 "TemplateForge$Tally" "trap" "[I", .methodLink RX10 34 yX10_noteTrap, .instanceMethod yX10_noteTrap, .selects RX10 yX10_noteTrap yX10_noteTrap, .initialized RX10, .methodLink RX7 46 yX10_beginRun, .instanceMethod yX10_beginRun]
def zw_zd_X7_go_w1 : List Cond := [.selects RX10 yX10_beginRun yX10_beginRun, .fieldLink RX7 49 "TemplateForge$Machine" "open" "I", .fieldLink RX7 53 "TemplateForge$Machine" "ending" "I", .fieldLink RX7 56 "TemplateForge$Machine" "called" "I", .fieldLink RX7 59 "TemplateForge$Machine" "into" "I", .fieldLink RX7 24 "TemplateForge$Machine" "handed" "[I", .constant RX7 62 (4000000), .code yX7_begin cX7_begin 4 none, .fieldLink RX7 97 "TemplateForge$Frame" "place" "I", .fieldLink RX7 100 "TemplateForge$Frame" "into" "I", .code yX4_clear cX4_clear 1 none, .fieldLink RX4 9 "TemplateForge$Frame" "registers" "[I", .code yJ7_fill_53178 cJ7_fill_53178 4 none, .methodLink RX4 15 yJ7_fill_53178, .static yJ7_fill_53178, .initialized RJ7]
def zw_zd_X7_go_w2 : List Cond := [.methodLink RX7 101 yX4_clear, .instanceMethod yX4_clear, .selects RX4 yX4_clear yX4_clear, .initialized RX4, .fieldLink RX7 104 "TemplateForge$Program" "args" "I", .code yX4_put cX4_put 3 none, .methodLink RX7 107 yX4_put, .instanceMethod yX4_put, .selects RX4 yX4_put yX4_put, .fieldLink RX7 28 "TemplateForge$Machine" "book" "LTemplateForge$Book;", .code yX0_at cX0_at 2 (some (.object "TemplateForge$Program")), .fieldLink RX0 17 "TemplateForge$Book" "told" "I", .fieldLink RX0 11 "TemplateForge$Book" "programs" "[LTemplateForge$Program;", .methodLink RX7 72 yX0_at, .instanceMethod yX0_at, .selects RX0 yX0_at yX0_at]
def zw_zd_X7_go_w3 : List Cond := [.initialized RX0, .code yX7_stepOn cX7_stepOn 1 none, .fieldLink RX7 150 "TemplateForge$Tally" "steps" "I", .methodLink RX7 78 yX7_stepOn, .instanceMethod yX7_stepOn, .selects RX7 yX7_stepOn yX7_stepOn, .initialized RX7, .fieldLink RX7 20 "TemplateForge$Machine" "frames" "[LTemplateForge$Frame;", .fieldLink RX7 81 "TemplateForge$Tally" "calls" "I", .fieldLink RX7 84 "TemplateForge$Frame" "program" "LTemplateForge$Program;", .fieldLink RX7 88 "TemplateForge$Program" "plain" "LTemplateForge$Code;", .fieldLink RX7 94 "TemplateForge$Frame" "code" "LTemplateForge$Code;", .methodLink RX7 66 yX7_begin, .instanceMethod yX7_begin, .selects RX7 yX7_begin yX7_begin, .code yX7_choosePath cX7_choosePath 3 none]
def zw_zd_X7_go_w4 : List Cond := [.fieldLink RX7 133 "TemplateForge$Heat" "hasCode" "Z", .fieldLink RX7 32 "TemplateForge$Machine" "data" "LTemplateForge$Data;", .code yX5_remember cX5_remember 5 none, .fieldLink RX5 26 "TemplateForge$Heat" "counted" "I", .code yX2_valueOf cX2_valueOf 2 (some .int), .fieldLink RX2 9 "TemplateForge$Data" "fields" "[I", .methodLink RX5 36 yX2_valueOf, .instanceMethod yX2_valueOf, .selects RX2 yX2_valueOf yX2_valueOf, .initialized RX2, .fieldLink RX5 9 "TemplateForge$Heat" "first" "[I", .fieldLink RX5 15 "TemplateForge$Heat" "same" "[Z", .code yX4_valueOf cX4_valueOf 2 (some .int), .methodLink RX5 30 yX4_valueOf, .instanceMethod yX4_valueOf, .selects RX4 yX4_valueOf yX4_valueOf]
def zw_zd_X7_go_w5 : List Cond := [.methodLink RX7 146 yX5_remember, .instanceMethod yX5_remember, .selects RX5 yX5_remember yX5_remember, .initialized RX5, .fieldLink RX7 137 "TemplateForge$Heat" "latest" "LTemplateForge$Code;", .fieldLink RX7 140 "TemplateForge$Heat" "ran" "I", .fieldLink RX7 143 "TemplateForge$Tally" "coded" "I", .code yX7_latestFrame cX7_latestFrame 1 (some (.object "TemplateForge$Frame")), .methodLink RX7 111 yX7_latestFrame, .instanceMethod yX7_latestFrame, .selects RX7 yX7_latestFrame yX7_latestFrame, .fieldLink RX7 115 "TemplateForge$Program" "heat" "LTemplateForge$Heat;", .code yX5_isHot cX5_isHot 1 (some .boolean), .fieldLink RX5 22 "TemplateForge$Heat" "hasCode" "Z", .methodLink RX7 119 yX5_isHot, .instanceMethod yX5_isHot]
def zw_zd_X7_go_w6 : List Cond := [.selects RX5 yX5_isHot yX5_isHot, .fieldLink RX7 41 "TemplateForge$Machine" "smith" "LTemplateForge$Smith;", .code yX9_forge cX9_forge 4 (some (.object "TemplateForge$Code")), .fieldLink RX9 25 "TemplateForge$Smith" "draft" "LTemplateForge$Draft;", .code yX3_clear cX3_clear 1 none, .fieldLink RX3 18 "TemplateForge$Draft" "parts" "I", .fieldLink RX3 15 "TemplateForge$Draft" "starts" "[I", .methodLink RX3 22 yJ7_fill_53178, .methodLink RX9 29 yX3_clear, .instanceMethod yX3_clear, .selects RX3 yX3_clear yX3_clear, .initialized RX3, .code yX9_findTargets cX9_findTargets 5 none, .fieldLink RX9 55 "TemplateForge$Program" "length" "I", .code yX8_opAt cX8_opAt 2 (some .int), .code yX8_has cX8_has 2 (some .boolean)]
def zw_zd_X7_go_w7 : List Cond := [.fieldLink RX8 41 "TemplateForge$Program" "length" "I", .methodLink RX8 44 yX8_has, .instanceMethod yX8_has, .selects RX8 yX8_has yX8_has, .initialized RX8, .fieldLink RX8 18 "TemplateForge$Program" "ops" "[I", .methodLink RX9 86 yX8_opAt, .instanceMethod yX8_opAt, .selects RX8 yX8_opAt yX8_opAt, .code yX8_xAt cX8_xAt 2 (some .int), .fieldLink RX8 22 "TemplateForge$Program" "xs" "[I", .methodLink RX9 99 yX8_xAt, .instanceMethod yX8_xAt, .selects RX8 yX8_xAt yX8_xAt, .code yX8_isDead cX8_isDead 2 (some .boolean), .fieldLink RX8 25 "TemplateForge$Program" "depths" "[I"]
def zw_zd_X7_go_w8 : List Cond := [.methodLink RX9 59 yX8_isDead, .instanceMethod yX8_isDead, .selects RX8 yX8_isDead yX8_isDead, .fieldLink RX9 19 "TemplateForge$Smith" "target" "[Z", .methodLink RX9 34 yX9_findTargets, .instanceMethod yX9_findTargets, .selects RX9 yX9_findTargets yX9_findTargets, .initialized RX9, .code yX9_assume cX9_assume 5 none, .fieldLink RX9 22 "TemplateForge$Smith" "assumed" "[Z", .fieldLink RX9 41 "TemplateForge$Program" "heat" "LTemplateForge$Heat;", .code yX5_wasAlways cX5_wasAlways 2 (some .boolean), .fieldLink RX5 19 "TemplateForge$Heat" "varying" "[Z", .methodLink RX9 105 yX5_wasAlways, .instanceMethod yX5_wasAlways, .selects RX5 yX5_wasAlways yX5_wasAlways]
def zw_zd_X7_go_w9 : List Cond := [.code yX9_uses cX9_uses 5 (some .boolean), .methodLink RX9 108 yX9_uses, .instanceMethod yX9_uses, .selects RX9 yX9_uses yX9_uses, .fieldLink RX9 102 "TemplateForge$Program" "args" "I", .methodLink RX9 38 yX9_assume, .instanceMethod yX9_assume, .selects RX9 yX9_assume yX9_assume, .code yX9_addGuards cX9_addGuards 6 none, .methodLink RX9 112 Lib.Math.max.name, .static Lib.Math.max.name, .initialized "java/lang/Math", .code Lib.Math.max.name Lib.Math.max.code 2 (some .int), .code yX5_valueOf cX5_valueOf 2 (some .int), .methodLink RX9 118 yX5_valueOf, .instanceMethod yX5_valueOf]
def zw_zd_X7_go_w10 : List Cond := [.selects RX5 yX5_valueOf yX5_valueOf, .code yX3_add cX3_add 7 none, .fieldLink RX3 9 "TemplateForge$Draft" "cells" "[I", .methodLink RX9 121 yX3_add, .instanceMethod yX3_add, .selects RX3 yX3_add yX3_add, .methodLink RX9 47 yX9_addGuards, .instanceMethod yX9_addGuards, .selects RX9 yX9_addGuards yX9_addGuards, .code yX3_parts cX3_parts 1 (some .int), .methodLink RX9 51 yX3_parts, .instanceMethod yX3_parts, .selects RX3 yX3_parts yX3_parts, .fieldLink RX9 90 "TemplateForge$Heat" "made" "I", .code yX3_finish cX3_finish 5 (some (.object "TemplateForge$Code")), .methodLink RX3 48 Lib.Math.max.name]
def zw_zd_X7_go_w11 : List Cond := [.code yJ7_copyOf_59c91 cJ7_copyOf_59c91 3 (some (.array .int)), .methodLink RJ7 316 ⟨"[I", "clone", "()Ljava/lang/Object;"⟩, .sameMethod "[I" "java/lang/Object" "clone" "()Ljava/lang/Object;", .native ⟨"java/lang/Object", "clone", "()Ljava/lang/Object;"⟩, .instanceMethod ⟨"java/lang/Object", "clone", "()Ljava/lang/Object;"⟩, .selects "[I" ⟨"[I", "clone", "()Ljava/lang/Object;"⟩ ⟨"java/lang/Object", "clone", "()Ljava/lang/Object;"⟩, .classLink RJ7 317 "[I", .arrayClass .int, .methodLink RJ7 304 Lib.Math.min.name, .static Lib.Math.min.name, .code Lib.Math.min.name Lib.Math.min.code 2 (some .int), .methodLink RJ7 150 arraycopyName, .native arraycopyName, .static arraycopyName, .initialized "java/lang/System", .methodLink RX3 54 yJ7_copyOf_59c91]
def zw_zd_X7_go_w12 : List Cond := [.static yJ7_copyOf_59c91, .classLink RX3 58 RX1, .instantiable RX1 4, .initialized RX1, .code yX1_init cX1_init 5 none, .methodLink RX1 3 objectInit, .instanceMethod objectInit, .code objectInit ⟨#[0xb1]⟩ 1 none, .fieldLink RX1 9 "TemplateForge$Code" "making" "I", .fieldLink RX1 15 "TemplateForge$Code" "heads" "I", .fieldLink RX1 18 "TemplateForge$Code" "cells" "[I", .fieldLink RX1 22 "TemplateForge$Code" "starts" "[I", .methodLink RX3 60 yX1_init, .instanceMethod yX1_init, .methodLink RX9 95 yX3_finish, .instanceMethod yX3_finish]
def zw_zd_X7_go_w13 : List Cond := [.selects RX3 yX3_finish yX3_finish, .code yX9_knowArgsAlone cX9_knowArgsAlone 3 none, .code yX9_know cX9_know 3 none, .fieldLink RX9 9 "TemplateForge$Smith" "known" "[Z", .fieldLink RX9 15 "TemplateForge$Smith" "worth" "[I", .methodLink RX9 125 yX9_know, .instanceMethod yX9_know, .selects RX9 yX9_know yX9_know, .methodLink RX9 70 yX9_knowArgsAlone, .instanceMethod yX9_knowArgsAlone, .selects RX9 yX9_knowArgsAlone yX9_knowArgsAlone, .code yX3_begin cX3_begin 2 none, .methodLink RX9 74 yX3_begin, .instanceMethod yX3_begin, .selects RX3 yX3_begin yX3_begin, .code yX9_wantsTemplate cX9_wantsTemplate 6 (some .boolean)]
def zw_zd_X7_go_w14 : List Cond := [.code yX8_depthAt cX8_depthAt 2 (some .int), .methodLink RX9 129 yX8_depthAt, .instanceMethod yX8_depthAt, .selects RX8 yX8_depthAt yX8_depthAt, .code yX9_isResultKnown cX9_isResultKnown 6 (some .boolean), .code yX9_isKnown cX9_isKnown 2 (some .boolean), .methodLink RX9 154 yX9_isKnown, .instanceMethod yX9_isKnown, .selects RX9 yX9_isKnown yX9_isKnown, .code yX9_lay cX9_lay 5 none, .methodLink RX9 66 yX9_lay, .instanceMethod yX9_lay, .selects RX9 yX9_lay yX9_lay, .code yX9_worthOf cX9_worthOf 2 (some .int), .methodLink RX9 157 yX9_worthOf, .instanceMethod yX9_worthOf]
def zw_zd_X7_go_w15 : List Cond := [.selects RX9 yX9_worthOf yX9_worthOf, .code yX11_reckoned cX11_reckoned 3 (some .int), .static yX11_reckoned, .initialized RX11, .code yX9_forget cX9_forget 2 none, .methodLink RX9 140 yX9_forget, .instanceMethod yX9_forget, .selects RX9 yX9_forget yX9_forget, .methodLink RX9 150 yX9_isResultKnown, .instanceMethod yX9_isResultKnown, .selects RX9 yX9_isResultKnown yX9_isResultKnown, .code yX9_isCopyKnown cX9_isCopyKnown 3 (some .boolean), .methodLink RX9 132 yX9_isCopyKnown, .instanceMethod yX9_isCopyKnown, .selects RX9 yX9_isCopyKnown yX9_isCopyKnown, .code yX9_isStoredKnown cX9_isStoredKnown 4 (some .boolean)]
def zw_zd_X7_go_w16 : List Cond := [.methodLink RX9 136 yX9_isStoredKnown, .instanceMethod yX9_isStoredKnown, .selects RX9 yX9_isStoredKnown yX9_isStoredKnown, .code yX9_isWaySure cX9_isWaySure 4 (some .boolean), .methodLink RX9 143 yX9_isWaySure, .instanceMethod yX9_isWaySure, .selects RX9 yX9_isWaySure yX9_isWaySure, .code yX9_isFieldKnown cX9_isFieldKnown 5 (some .boolean), .methodLink RX9 146 yX9_isFieldKnown, .instanceMethod yX9_isFieldKnown, .selects RX9 yX9_isFieldKnown yX9_isFieldKnown, .methodLink RX9 78 yX9_wantsTemplate, .instanceMethod yX9_wantsTemplate, .selects RX9 yX9_wantsTemplate yX9_wantsTemplate, .code yX3_addTemplate cX3_addTemplate 6 none, .methodLink RX3 28 yX8_opAt]
def zw_zd_X7_go_w17 : List Cond := [.methodLink RX3 34 yX8_xAt, .methodLink RX3 37 yX8_depthAt, .code yX3_addReckoning cX3_addReckoning 5 none, .methodLink RX3 40 yX3_add, .methodLink RX3 44 yX3_addReckoning, .instanceMethod yX3_addReckoning, .selects RX3 yX3_addReckoning yX3_addReckoning, .methodLink RX9 82 yX3_addTemplate, .instanceMethod yX3_addTemplate, .selects RX3 yX3_addTemplate yX3_addTemplate, .code yX8_goesOnAt cX8_goesOnAt 3 (some .boolean), .methodLink RX8 48 yX8_opAt, .methodLink RX8 52 yX8_isDead, .methodLink RX9 63 yX8_goesOnAt, .instanceMethod yX8_goesOnAt, .selects RX8 yX8_goesOnAt yX8_goesOnAt]
def zw_zd_X7_go_w18 : List Cond := [.methodLink RX7 125 yX9_forge, .instanceMethod yX9_forge, .selects RX9 yX9_forge yX9_forge, .code yX5_take cX5_take 2 none, .fieldLink RX5 39 "TemplateForge$Heat" "latest" "LTemplateForge$Code;", .fieldLink RX5 43 "TemplateForge$Code" "making" "I", .fieldLink RX5 48 "TemplateForge$Heat" "made" "I", .methodLink RX7 129 yX5_take, .instanceMethod yX5_take, .selects RX5 yX5_take yX5_take, .methodLink RX7 69 yX7_choosePath, .instanceMethod yX7_choosePath, .selects RX7 yX7_choosePath yX7_choosePath, .code yX7_turn cX7_turn 9 none, .code yX1_parts cX1_parts 1 (some .int), .methodLink RX7 153 yX1_parts]
def zw_zd_X7_go_w19 : List Cond := [.instanceMethod yX1_parts, .selects RX1 yX1_parts yX1_parts, .fieldLink RX7 159 "TemplateForge$Code" "cells" "[I", .code yX7_turnThatMayTrap cX7_turnThatMayTrap 7 none, .methodLink RX7 162 yX4_valueOf, .code yX7_endByTrap cX7_endByTrap 4 none, .fieldLink RX7 244 "TemplateForge$Program" "number" "I", .methodLink RX7 247 yX10_noteTrap, .methodLink RX7 205 yX7_endByTrap, .instanceMethod yX7_endByTrap, .selects RX7 yX7_endByTrap yX7_endByTrap, .code yX7_newRow cX7_newRow 5 none, .code yX2_renew cX2_renew 3 none, .fieldLink RX2 15 "TemplateForge$Data" "lengths" "[I", .fieldLink RX2 18 "TemplateForge$Data" "items" "[I", .code yJ7_fill_fda19 cJ7_fill_fda19 5 none]
def zw_zd_X7_go_w20 : List Cond := [.code yJ7_rangeCheck_23922 cJ7_rangeCheck_23922 3 none, .methodLink RJ7 13 yJ7_rangeCheck_23922, .static yJ7_rangeCheck_23922, .methodLink RX2 27 yJ7_fill_fda19, .static yJ7_fill_fda19, .methodLink RX7 238 yX2_renew, .instanceMethod yX2_renew, .selects RX2 yX2_renew yX2_renew, .methodLink RX7 190 yX7_newRow, .instanceMethod yX7_newRow, .selects RX7 yX7_newRow yX7_newRow, .code yX7_isThere cX7_isThere 5 (some .boolean), .code yX2_lengthOf cX2_lengthOf 2 (some .int), .methodLink RX7 241 yX2_lengthOf, .instanceMethod yX2_lengthOf, .selects RX2 yX2_lengthOf yX2_lengthOf]
def zw_zd_X7_go_w21 : List Cond := [.methodLink RX7 193 yX7_isThere, .instanceMethod yX7_isThere, .selects RX7 yX7_isThere yX7_isThere, .code yX2_itemOf cX2_itemOf 3 (some .int), .methodLink RX2 30 yX2_lengthOf, .methodLink RX7 197 yX2_itemOf, .instanceMethod yX2_itemOf, .selects RX2 yX2_itemOf yX2_itemOf, .code yX2_putItem cX2_putItem 4 none, .methodLink RX7 201 yX2_putItem, .instanceMethod yX2_putItem, .selects RX2 yX2_putItem yX2_putItem, .methodLink RX7 186 yX7_turnThatMayTrap, .instanceMethod yX7_turnThatMayTrap, .selects RX7 yX7_turnThatMayTrap yX7_turnThatMayTrap, .code yX7_goTo cX7_goTo 4 none]
def zw_zd_X7_go_w22 : List Cond := [.code yX1_startOf cX1_startOf 2 (some .int), .methodLink RX1 25 yX1_parts, .methodLink RX7 212 yX1_startOf, .instanceMethod yX1_startOf, .selects RX1 yX1_startOf yX1_startOf, .methodLink RX7 166 yX7_goTo, .instanceMethod yX7_goTo, .selects RX7 yX7_goTo yX7_goTo, .code yX7_call cX7_call 6 none, .methodLink RX7 170 yX7_call, .instanceMethod yX7_call, .selects RX7 yX7_call yX7_call, .code yX7_giveBack cX7_giveBack 4 none, .fieldLink RX7 215 "TemplateForge$Tally" "returned" "I", .methodLink RX7 174 yX7_giveBack, .instanceMethod yX7_giveBack]
def zw_zd_X7_go_w23 : List Cond := [.selects RX7 yX7_giveBack yX7_giveBack, .methodLink RX7 182 yX2_valueOf, .code yX2_put cX2_put 3 none, .methodLink RX7 185 yX2_put, .instanceMethod yX2_put, .selects RX2 yX2_put yX2_put, .code yX7_guard cX7_guard 8 none, .fieldLink RX7 218 "TemplateForge$Tally" "failed" "I", .fieldLink RX7 221 "TemplateForge$Heat" "failed" "I", .code yX5_markVarying cX5_markVarying 2 none, .methodLink RX7 222 yX5_markVarying, .instanceMethod yX5_markVarying, .selects RX5 yX5_markVarying yX5_markVarying, .fieldLink RX7 235 "TemplateForge$Code" "heads" "I", .fieldLink RX7 226 "TemplateForge$Heat" "made" "I", .fieldLink RX7 229 "TemplateForge$Code" "making" "I"]
def zw_zd_X7_go_w24 : List Cond := [.code yX5_throwAway cX5_throwAway 1 none, .methodLink RX7 232 yX5_throwAway, .instanceMethod yX5_throwAway, .selects RX5 yX5_throwAway yX5_throwAway, .methodLink RX7 178 yX7_guard, .instanceMethod yX7_guard, .selects RX7 yX7_guard yX7_guard, .methodLink RX7 63 yX7_turn, .instanceMethod yX7_turn, .selects RX7 yX7_turn yX7_turn]
def zw_zd_X7_go : List Cond := .code yX7_go cX7_go 6 (some .int) :: ((zw_zd_X7_go_w0 ++ (zw_zd_X7_go_w1 ++ (zw_zd_X7_go_w2 ++ (zw_zd_X7_go_w3 ++ (zw_zd_X7_go_w4 ++ (zw_zd_X7_go_w5 ++ (zw_zd_X7_go_w6 ++ (zw_zd_X7_go_w7 ++ (zw_zd_X7_go_w8 ++ (zw_zd_X7_go_w9 ++ (zw_zd_X7_go_w10 ++ (zw_zd_X7_go_w11 ++ (zw_zd_X7_go_w12 ++ (zw_zd_X7_go_w13 ++ (zw_zd_X7_go_w14 ++ (zw_zd_X7_go_w15 ++ (zw_zd_X7_go_w16 ++ (zw_zd_X7_go_w17 ++ (zw_zd_X7_go_w18 ++ (zw_zd_X7_go_w19 ++ (zw_zd_X7_go_w20 ++ (zw_zd_X7_go_w21 ++ (zw_zd_X7_go_w22 ++ (zw_zd_X7_go_w23 ++ (zw_zd_X7_go_w24))))))))))))))))))))))))) ++ wsX70 ++ wsX100 ++ wsX40 ++ wsX80 ++ wsX00 ++ wsX50 ++ wsX20 ++ wsX90 ++ wsX30 ++ wsX10)
set_option maxRecDepth 100000 in
theorem zg_zd_X7_go_zd_X10_beginRun_46_a : GoodIn zw_zd_X7_go [.methodLink RX7 46 yX10_beginRun, .instanceMethod yX10_beginRun, .selects RX10 yX10_beginRun yX10_beginRun, .initialized RX10] := goodIn_r _ [15, 16, 17, 14] rfl (by decide +kernel)
set_option maxRecDepth 100000 in
theorem zg_zd_X7_go_zd_X10_beginRun_46_c : GoodIn zw_zd_X7_go [.code yX10_beginRun cX10_beginRun 1 none] := goodIn_r _ [2] rfl (by decide +kernel)
set_option maxRecDepth 100000 in
theorem zg_zd_X7_go_zd_X10_beginRun_46_0 : GoodIn zw_zd_X7_go zw_zd_X10_beginRun_w0 := goodIn_r _ [3, 4, 5, 6, 7, 8, 9, 10, 11, 12, 13, 14] rfl (by decide +kernel)
theorem zg_zd_X7_go_zd_X10_beginRun_46 : GoodIn zw_zd_X7_go (wsV RX7 46 RX10 yX10_beginRun zw_zd_X10_beginRun) := goodIn_app zg_zd_X7_go_zd_X10_beginRun_46_a (goodIn_ca (a := (zw_zd_X10_beginRun_w0)) (show GoodIn zw_zd_X7_go (.code yX10_beginRun cX10_beginRun 1 none :: (zw_zd_X10_beginRun_w0)) from goodIn_app zg_zd_X7_go_zd_X10_beginRun_46_c (zg_zd_X7_go_zd_X10_beginRun_46_0)) (fun w h => ⟨(fun _ h => List.mem_cons_of_mem _ (List.mem_append_left _ (List.mem_append_left _ (List.mem_append_left _ (List.mem_append_left _ (List.mem_append_left _ (List.mem_append_left _ (List.mem_append_left _ (List.mem_append_left _ (List.mem_append_right _ h)))))))))) w h, good_of_word (List.all_eq_true.mp zgw_X10 w h)⟩))
set_option maxRecDepth 100000 in
theorem zg_zd_X7_go_zd_X7_begin_66_a : GoodIn zw_zd_X7_go [.methodLink RX7 66 yX7_begin, .instanceMethod yX7_begin, .selects RX7 yX7_begin yX7_begin, .initialized RX7] := goodIn_r _ [61, 62, 63, 55] rfl (by decide +kernel)
set_option maxRecDepth 100000 in
theorem zg_zd_X7_go_zd_X7_begin_66_c : GoodIn zw_zd_X7_go [.code yX7_begin cX7_begin 4 none] := goodIn_r _ [24] rfl (by decide +kernel)
set_option maxRecDepth 100000 in
theorem zg_zd_X7_go_zd_X7_begin_66_0 : GoodIn zw_zd_X7_go zw_zd_X7_begin_w0 := goodIn_r _ [25, 21, 26, 27, 28, 29, 30, 31, 32, 33, 34, 35, 36, 37, 22, 38] rfl (by decide +kernel)
set_option maxRecDepth 100000 in
theorem zg_zd_X7_go_zd_X7_begin_66_1 : GoodIn zw_zd_X7_go zw_zd_X7_begin_w1 := goodIn_r _ [39, 40, 41, 42, 20, 43, 44, 45, 46, 47, 48, 49, 50, 1, 51, 19] rfl (by decide +kernel)
set_option maxRecDepth 100000 in
theorem zg_zd_X7_go_zd_X7_begin_66_2 : GoodIn zw_zd_X7_go zw_zd_X7_begin_w2 := goodIn_r _ [52, 53, 54, 55, 18, 56, 57, 58, 59, 60] rfl (by decide +kernel)
theorem zg_zd_X7_go_zd_X7_begin_66 : GoodIn zw_zd_X7_go (wsV RX7 66 RX7 yX7_begin zw_zd_X7_begin) := goodIn_app zg_zd_X7_go_zd_X7_begin_66_a (goodIn_ca (a := (((((zw_zd_X7_begin_w0 ++ (zw_zd_X7_begin_w1 ++ (zw_zd_X7_begin_w2))) ++ wsX40) ++ wsX70) ++ wsX80) ++ wsX00)) (goodIn_ca (a := ((((zw_zd_X7_begin_w0 ++ (zw_zd_X7_begin_w1 ++ (zw_zd_X7_begin_w2))) ++ wsX40) ++ wsX70) ++ wsX80)) (goodIn_ca (a := (((zw_zd_X7_begin_w0 ++ (zw_zd_X7_begin_w1 ++ (zw_zd_X7_begin_w2))) ++ wsX40) ++ wsX70)) (goodIn_ca (a := ((zw_zd_X7_begin_w0 ++ (zw_zd_X7_begin_w1 ++ (zw_zd_X7_begin_w2))) ++ wsX40)) (goodIn_ca (a := (zw_zd_X7_begin_w0 ++ (zw_zd_X7_begin_w1 ++ (zw_zd_X7_begin_w2)))) (show GoodIn zw_zd_X7_go (.code yX7_begin cX7_begin 4 none :: (zw_zd_X7_begin_w0 ++ (zw_zd_X7_begin_w1 ++ (zw_zd_X7_begin_w2)))) from goodIn_app zg_zd_X7_go_zd_X7_begin_66_c (goodIn_app zg_zd_X7_go_zd_X7_begin_66_0 (goodIn_app zg_zd_X7_go_zd_X7_begin_66_1 (zg_zd_X7_go_zd_X7_begin_66_2)))) (fun w h => ⟨(fun _ h => List.mem_cons_of_mem _ (List.mem_append_left _ (List.mem_append_left _ (List.mem_append_left _ (List.mem_append_left _ (List.mem_append_left _ (List.mem_append_left _ (List.mem_append_left _ (List.mem_append_right _ h))))))))) w h, good_of_word (List.all_eq_true.mp zgw_X4 w h)⟩)) (fun w h => ⟨(fun _ h => List.mem_cons_of_mem _ (List.mem_append_left _ (List.mem_append_left _ (List.mem_append_left _ (List.mem_append_left _ (List.mem_append_left _ (List.mem_append_left _ (List.mem_append_left _ (List.mem_append_left _ (List.mem_append_left _ (List.mem_append_right _ h))))))))))) w h, good_of_word (List.all_eq_true.mp zgw_X7 w h)⟩)) (fun w h => ⟨(fun _ h => List.mem_cons_of_mem _ (List.mem_append_left _ (List.mem_append_left _ (List.mem_append_left _ (List.mem_append_left _ (List.mem_append_left _ (List.mem_append_left _ (List.mem_append_right _ h)))))))) w h, good_of_word (List.all_eq_true.mp zgw_X8 w h)⟩)) (fun w h => ⟨(fun _ h => List.mem_cons_of_mem _ (List.mem_append_left _ (List.mem_append_left _ (List.mem_append_left _ (List.mem_append_left _ (List.mem_append_left _ (List.mem_append_right _ h))))))) w h, good_of_word (List.all_eq_true.mp zgw_X0 w h)⟩)) (fun w h => ⟨(fun _ h => List.mem_cons_of_mem _ (List.mem_append_left _ (List.mem_append_left _ (List.mem_append_left _ (List.mem_append_left _ (List.mem_append_left _ (List.mem_append_left _ (List.mem_append_left _ (List.mem_append_left _ (List.mem_append_right _ h)))))))))) w h, good_of_word (List.all_eq_true.mp zgw_X10 w h)⟩))
set_option maxRecDepth 100000 in
theorem zg_zd_X7_go_zd_X7_choosePath_69_a : GoodIn zw_zd_X7_go [.methodLink RX7 69 yX7_choosePath, .instanceMethod yX7_choosePath, .selects RX7 yX7_choosePath yX7_choosePath, .initialized RX7] := goodIn_r _ [299, 300, 301, 55] rfl (by decide +kernel)
set_option maxRecDepth 100000 in
theorem zg_zd_X7_go_zd_X7_choosePath_69_c : GoodIn zw_zd_X7_go [.code yX7_choosePath cX7_choosePath 3 none] := goodIn_r _ [64] rfl (by decide +kernel)
set_option maxRecDepth 100000 in
theorem zg_zd_X7_go_zd_X7_choosePath_69_0 : GoodIn zw_zd_X7_go zw_zd_X7_choosePath_w0 := goodIn_r _ [65, 66, 67, 68, 69, 70, 71, 72, 73, 74, 75, 76, 77, 28, 78, 79] rfl (by decide +kernel)
set_option maxRecDepth 100000 in
theorem zg_zd_X7_go_zd_X7_choosePath_69_1 : GoodIn zw_zd_X7_go zw_zd_X7_choosePath_w1 := goodIn_r _ [80, 36, 81, 82, 83, 84, 85, 60, 86, 1, 87, 88, 18, 56, 89, 90] rfl (by decide +kernel)
set_option maxRecDepth 100000 in
theorem zg_zd_X7_go_zd_X7_choosePath_69_2 : GoodIn zw_zd_X7_go zw_zd_X7_choosePath_w2 := goodIn_r _ [91, 55, 19, 58, 92, 93, 94, 95, 96, 97, 98, 99, 100, 101, 102, 103] rfl (by decide +kernel)
set_option maxRecDepth 100000 in
theorem zg_zd_X7_go_zd_X7_choosePath_69_3 : GoodIn zw_zd_X7_go zw_zd_X7_choosePath_w3 := goodIn_r _ [29, 104, 31, 32, 105, 106, 107, 108, 109, 110, 111, 112, 113, 114, 115, 116] rfl (by decide +kernel)
set_option maxRecDepth 100000 in
theorem zg_zd_X7_go_zd_X7_choosePath_69_4 : GoodIn zw_zd_X7_go zw_zd_X7_choosePath_w4 := goodIn_r _ [117, 118, 119, 120, 121, 122, 123, 124, 125, 126, 127, 128, 129, 130, 131, 132] rfl (by decide +kernel)
set_option maxRecDepth 100000 in
theorem zg_zd_X7_go_zd_X7_choosePath_69_5 : GoodIn zw_zd_X7_go zw_zd_X7_choosePath_w5 := goodIn_r _ [133, 134, 135, 136, 137, 138, 139, 140, 141, 142, 143, 144, 145, 146, 147, 148] rfl (by decide +kernel)
set_option maxRecDepth 100000 in
theorem zg_zd_X7_go_zd_X7_choosePath_69_6 : GoodIn zw_zd_X7_go zw_zd_X7_choosePath_w6 := goodIn_r _ [149, 150, 151, 152, 153, 154, 155, 156, 157, 158, 159, 160, 161, 162, 163, 164] rfl (by decide +kernel)
set_option maxRecDepth 100000 in
theorem zg_zd_X7_go_zd_X7_choosePath_69_7 : GoodIn zw_zd_X7_go zw_zd_X7_choosePath_w7 := goodIn_r _ [165, 166, 167, 168, 169, 170, 171, 172, 173, 174, 175, 176, 177, 178, 179, 180] rfl (by decide +kernel)
set_option maxRecDepth 100000 in
theorem zg_zd_X7_go_zd_X7_choosePath_69_8 : GoodIn zw_zd_X7_go zw_zd_X7_choosePath_w8 := goodIn_r _ [181, 182, 183, 184, 185, 186, 187, 188, 189, 190, 191, 192, 193, 194, 195, 196] rfl (by decide +kernel)
set_option maxRecDepth 100000 in
theorem zg_zd_X7_go_zd_X7_choosePath_69_9 : GoodIn zw_zd_X7_go zw_zd_X7_choosePath_w9 := goodIn_r _ [197, 198, 199, 200, 201, 202, 203, 204, 205, 206, 207, 208, 209, 210, 211, 212] rfl (by decide +kernel)
set_option maxRecDepth 100000 in
theorem zg_zd_X7_go_zd_X7_choosePath_69_10 : GoodIn zw_zd_X7_go zw_zd_X7_choosePath_w10 := goodIn_r _ [213, 214, 215, 216, 217, 218, 219, 220, 221, 222, 223, 224, 225, 226, 227, 228] rfl (by decide +kernel)
set_option maxRecDepth 100000 in
theorem zg_zd_X7_go_zd_X7_choosePath_69_11 : GoodIn zw_zd_X7_go zw_zd_X7_choosePath_w11 := goodIn_r _ [229, 230, 231, 232, 233, 234, 235, 236, 237, 238, 239, 240, 241, 242, 243, 244] rfl (by decide +kernel)
set_option maxRecDepth 100000 in
theorem zg_zd_X7_go_zd_X7_choosePath_69_12 : GoodIn zw_zd_X7_go zw_zd_X7_choosePath_w12 := goodIn_r _ [245, 246, 247, 248, 249, 250, 251, 252, 253, 254, 255, 256, 257, 258, 259, 260] rfl (by decide +kernel)
set_option maxRecDepth 100000 in
theorem zg_zd_X7_go_zd_X7_choosePath_69_13 : GoodIn zw_zd_X7_go zw_zd_X7_choosePath_w13 := goodIn_r _ [261, 262, 263, 264, 265, 266, 267, 268, 269, 270, 271, 272, 273, 274, 275, 276] rfl (by decide +kernel)
set_option maxRecDepth 100000 in
theorem zg_zd_X7_go_zd_X7_choosePath_69_14 : GoodIn zw_zd_X7_go zw_zd_X7_choosePath_w14 := goodIn_r _ [277, 278, 279, 280, 281, 282, 283, 284, 285, 286, 287, 288, 289, 290, 291, 292] rfl (by decide +kernel)
set_option maxRecDepth 100000 in
theorem zg_zd_X7_go_zd_X7_choosePath_69_15 : GoodIn zw_zd_X7_go zw_zd_X7_choosePath_w15 := goodIn_r _ [293, 294, 295, 296, 297, 298] rfl (by decide +kernel)
theorem zg_zd_X7_go_zd_X7_choosePath_69 : GoodIn zw_zd_X7_go (wsV RX7 69 RX7 yX7_choosePath zw_zd_X7_choosePath) := goodIn_app zg_zd_X7_go_zd_X7_choosePath_69_a (goodIn_ca (a := (((((((((zw_zd_X7_choosePath_w0 ++ (zw_zd_X7_choosePath_w1 ++ (zw_zd_X7_choosePath_w2 ++ (zw_zd_X7_choosePath_w3 ++ (zw_zd_X7_choosePath_w4 ++ (zw_zd_X7_choosePath_w5 ++ (zw_zd_X7_choosePath_w6 ++ (zw_zd_X7_choosePath_w7 ++ (zw_zd_X7_choosePath_w8 ++ (zw_zd_X7_choosePath_w9 ++ (zw_zd_X7_choosePath_w10 ++ (zw_zd_X7_choosePath_w11 ++ (zw_zd_X7_choosePath_w12 ++ (zw_zd_X7_choosePath_w13 ++ (zw_zd_X7_choosePath_w14 ++ (zw_zd_X7_choosePath_w15)))))))))))))))) ++ wsX50) ++ wsX70) ++ wsX20) ++ wsX40) ++ wsX100) ++ wsX80) ++ wsX90) ++ wsX30)) (goodIn_ca (a := ((((((((zw_zd_X7_choosePath_w0 ++ (zw_zd_X7_choosePath_w1 ++ (zw_zd_X7_choosePath_w2 ++ (zw_zd_X7_choosePath_w3 ++ (zw_zd_X7_choosePath_w4 ++ (zw_zd_X7_choosePath_w5 ++ (zw_zd_X7_choosePath_w6 ++ (zw_zd_X7_choosePath_w7 ++ (zw_zd_X7_choosePath_w8 ++ (zw_zd_X7_choosePath_w9 ++ (zw_zd_X7_choosePath_w10 ++ (zw_zd_X7_choosePath_w11 ++ (zw_zd_X7_choosePath_w12 ++ (zw_zd_X7_choosePath_w13 ++ (zw_zd_X7_choosePath_w14 ++ (zw_zd_X7_choosePath_w15)))))))))))))))) ++ wsX50) ++ wsX70) ++ wsX20) ++ wsX40) ++ wsX100) ++ wsX80) ++ wsX90)) (goodIn_ca (a := (((((((zw_zd_X7_choosePath_w0 ++ (zw_zd_X7_choosePath_w1 ++ (zw_zd_X7_choosePath_w2 ++ (zw_zd_X7_choosePath_w3 ++ (zw_zd_X7_choosePath_w4 ++ (zw_zd_X7_choosePath_w5 ++ (zw_zd_X7_choosePath_w6 ++ (zw_zd_X7_choosePath_w7 ++ (zw_zd_X7_choosePath_w8 ++ (zw_zd_X7_choosePath_w9 ++ (zw_zd_X7_choosePath_w10 ++ (zw_zd_X7_choosePath_w11 ++ (zw_zd_X7_choosePath_w12 ++ (zw_zd_X7_choosePath_w13 ++ (zw_zd_X7_choosePath_w14 ++ (zw_zd_X7_choosePath_w15)))))))))))))))) ++ wsX50) ++ wsX70) ++ wsX20) ++ wsX40) ++ wsX100) ++ wsX80)) (goodIn_ca (a := ((((((zw_zd_X7_choosePath_w0 ++ (zw_zd_X7_choosePath_w1 ++ (zw_zd_X7_choosePath_w2 ++ (zw_zd_X7_choosePath_w3 ++ (zw_zd_X7_choosePath_w4 ++ (zw_zd_X7_choosePath_w5 ++ (zw_zd_X7_choosePath_w6 ++ (zw_zd_X7_choosePath_w7 ++ (zw_zd_X7_choosePath_w8 ++ (zw_zd_X7_choosePath_w9 ++ (zw_zd_X7_choosePath_w10 ++ (zw_zd_X7_choosePath_w11 ++ (zw_zd_X7_choosePath_w12 ++ (zw_zd_X7_choosePath_w13 ++ (zw_zd_X7_choosePath_w14 ++ (zw_zd_X7_choosePath_w15)))))))))))))))) ++ wsX50) ++ wsX70) ++ wsX20) ++ wsX40) ++ wsX100)) (goodIn_ca (a := (((((zw_zd_X7_choosePath_w0 ++ (zw_zd_X7_choosePath_w1 ++ (zw_zd_X7_choosePath_w2 ++ (zw_zd_X7_choosePath_w3 ++ (zw_zd_X7_choosePath_w4 ++ (zw_zd_X7_choosePath_w5 ++ (zw_zd_X7_choosePath_w6 ++ (zw_zd_X7_choosePath_w7 ++ (zw_zd_X7_choosePath_w8 ++ (zw_zd_X7_choosePath_w9 ++ (zw_zd_X7_choosePath_w10 ++ (zw_zd_X7_choosePath_w11 ++ (zw_zd_X7_choosePath_w12 ++ (zw_zd_X7_choosePath_w13 ++ (zw_zd_X7_choosePath_w14 ++ (zw_zd_X7_choosePath_w15)))))))))))))))) ++ wsX50) ++ wsX70) ++ wsX20) ++ wsX40)) (goodIn_ca (a := ((((zw_zd_X7_choosePath_w0 ++ (zw_zd_X7_choosePath_w1 ++ (zw_zd_X7_choosePath_w2 ++ (zw_zd_X7_choosePath_w3 ++ (zw_zd_X7_choosePath_w4 ++ (zw_zd_X7_choosePath_w5 ++ (zw_zd_X7_choosePath_w6 ++ (zw_zd_X7_choosePath_w7 ++ (zw_zd_X7_choosePath_w8 ++ (zw_zd_X7_choosePath_w9 ++ (zw_zd_X7_choosePath_w10 ++ (zw_zd_X7_choosePath_w11 ++ (zw_zd_X7_choosePath_w12 ++ (zw_zd_X7_choosePath_w13 ++ (zw_zd_X7_choosePath_w14 ++ (zw_zd_X7_choosePath_w15)))))))))))))))) ++ wsX50) ++ wsX70) ++ wsX20)) (goodIn_ca (a := (((zw_zd_X7_choosePath_w0 ++ (zw_zd_X7_choosePath_w1 ++ (zw_zd_X7_choosePath_w2 ++ (zw_zd_X7_choosePath_w3 ++ (zw_zd_X7_choosePath_w4 ++ (zw_zd_X7_choosePath_w5 ++ (zw_zd_X7_choosePath_w6 ++ (zw_zd_X7_choosePath_w7 ++ (zw_zd_X7_choosePath_w8 ++ (zw_zd_X7_choosePath_w9 ++ (zw_zd_X7_choosePath_w10 ++ (zw_zd_X7_choosePath_w11 ++ (zw_zd_X7_choosePath_w12 ++ (zw_zd_X7_choosePath_w13 ++ (zw_zd_X7_choosePath_w14 ++ (zw_zd_X7_choosePath_w15)))))))))))))))) ++ wsX50) ++ wsX70)) (goodIn_ca (a := ((zw_zd_X7_choosePath_w0 ++ (zw_zd_X7_choosePath_w1 ++ (zw_zd_X7_choosePath_w2 ++ (zw_zd_X7_choosePath_w3 ++ (zw_zd_X7_choosePath_w4 ++ (zw_zd_X7_choosePath_w5 ++ (zw_zd_X7_choosePath_w6 ++ (zw_zd_X7_choosePath_w7 ++ (zw_zd_X7_choosePath_w8 ++ (zw_zd_X7_choosePath_w9 ++ (zw_zd_X7_choosePath_w10 ++ (zw_zd_X7_choosePath_w11 ++ (zw_zd_X7_choosePath_w12 ++ (zw_zd_X7_choosePath_w13 ++ (zw_zd_X7_choosePath_w14 ++ (zw_zd_X7_choosePath_w15)))))))))))))))) ++ wsX50)) (goodIn_ca (a := (zw_zd_X7_choosePath_w0 ++ (zw_zd_X7_choosePath_w1 ++ (zw_zd_X7_choosePath_w2 ++ (zw_zd_X7_choosePath_w3 ++ (zw_zd_X7_choosePath_w4 ++ (zw_zd_X7_choosePath_w5 ++ (zw_zd_X7_choosePath_w6 ++ (zw_zd_X7_choosePath_w7 ++ (zw_zd_X7_choosePath_w8 ++ (zw_zd_X7_choosePath_w9 ++ (zw_zd_X7_choosePath_w10 ++ (zw_zd_X7_choosePath_w11 ++ (zw_zd_X7_choosePath_w12 ++ (zw_zd_X7_choosePath_w13 ++ (zw_zd_X7_choosePath_w14 ++ (zw_zd_X7_choosePath_w15))))))))))))))))) (show GoodIn zw_zd_X7_go (.code yX7_choosePath cX7_choosePath 3 none :: (zw_zd_X7_choosePath_w0 ++ (zw_zd_X7_choosePath_w1 ++ (zw_zd_X7_choosePath_w2 ++ (zw_zd_X7_choosePath_w3 ++ (zw_zd_X7_choosePath_w4 ++ (zw_zd_X7_choosePath_w5 ++ (zw_zd_X7_choosePath_w6 ++ (zw_zd_X7_choosePath_w7 ++ (zw_zd_X7_choosePath_w8 ++ (zw_zd_X7_choosePath_w9 ++ (zw_zd_X7_choosePath_w10 ++ (zw_zd_X7_choosePath_w11 ++ (zw_zd_X7_choosePath_w12 ++ (zw_zd_X7_choosePath_w13 ++ (zw_zd_X7_choosePath_w14 ++ (zw_zd_X7_choosePath_w15))))))))))))))))) from goodIn_app zg_zd_X7_go_zd_X7_choosePath_69_c (goodIn_app zg_zd_X7_go_zd_X7_choosePath_69_0 (goodIn_app zg_zd_X7_go_zd_X7_choosePath_69_1 (goodIn_app zg_zd_X7_go_zd_X7_choosePath_69_2 (goodIn_app zg_zd_X7_go_zd_X7_choosePath_69_3 (goodIn_app zg_zd_X7_go_zd_X7_choosePath_69_4 (goodIn_app zg_zd_X7_go_zd_X7_choosePath_69_5 (goodIn_app zg_zd_X7_go_zd_X7_choosePath_69_6 (goodIn_app zg_zd_X7_go_zd_X7_choosePath_69_7 (goodIn_app zg_zd_X7_go_zd_X7_choosePath_69_8 (goodIn_app zg_zd_X7_go_zd_X7_choosePath_69_9 (goodIn_app zg_zd_X7_go_zd_X7_choosePath_69_10 (goodIn_app zg_zd_X7_go_zd_X7_choosePath_69_11 (goodIn_app zg_zd_X7_go_zd_X7_choosePath_69_12 (goodIn_app zg_zd_X7_go_zd_X7_choosePath_69_13 (goodIn_app zg_zd_X7_go_zd_X7_choosePath_69_14 (zg_zd_X7_go_zd_X7_choosePath_69_15))))))))))))))))) (fun w h => ⟨(fun _ h => List.mem_cons_of_mem _ (List.mem_append_left _ (List.mem_append_left _ (List.mem_append_left _ (List.mem_append_left _ (List.mem_append_right _ h)))))) w h, good_of_word (List.all_eq_true.mp zgw_X5 w h)⟩)) (fun w h => ⟨(fun _ h => List.mem_cons_of_mem _ (List.mem_append_left _ (List.mem_append_left _ (List.mem_append_left _ (List.mem_append_left _ (List.mem_append_left _ (List.mem_append_left _ (List.mem_append_left _ (List.mem_append_left _ (List.mem_append_left _ (List.mem_append_right _ h))))))))))) w h, good_of_word (List.all_eq_true.mp zgw_X7 w h)⟩)) (fun w h => ⟨(fun _ h => List.mem_cons_of_mem _ (List.mem_append_left _ (List.mem_append_left _ (List.mem_append_left _ (List.mem_append_right _ h))))) w h, good_of_word (List.all_eq_true.mp zgw_X2 w h)⟩)) (fun w h => ⟨(fun _ h => List.mem_cons_of_mem _ (List.mem_append_left _ (List.mem_append_left _ (List.mem_append_left _ (List.mem_append_left _ (List.mem_append_left _ (List.mem_append_left _ (List.mem_append_left _ (List.mem_append_right _ h))))))))) w h, good_of_word (List.all_eq_true.mp zgw_X4 w h)⟩)) (fun w h => ⟨(fun _ h => List.mem_cons_of_mem _ (List.mem_append_left _ (List.mem_append_left _ (List.mem_append_left _ (List.mem_append_left _ (List.mem_append_left _ (List.mem_append_left _ (List.mem_append_left _ (List.mem_append_left _ (List.mem_append_right _ h)))))))))) w h, good_of_word (List.all_eq_true.mp zgw_X10 w h)⟩)) (fun w h => ⟨(fun _ h => List.mem_cons_of_mem _ (List.mem_append_left _ (List.mem_append_left _ (List.mem_append_left _ (List.mem_append_left _ (List.mem_append_left _ (List.mem_append_left _ (List.mem_append_right _ h)))))))) w h, good_of_word (List.all_eq_true.mp zgw_X8 w h)⟩)) (fun w h => ⟨(fun _ h => List.mem_cons_of_mem _ (List.mem_append_left _ (List.mem_append_left _ (List.mem_append_right _ h)))) w h, good_of_word (List.all_eq_true.mp zgw_X9 w h)⟩)) (fun w h => ⟨(fun _ h => List.mem_cons_of_mem _ (List.mem_append_left _ (List.mem_append_right _ h))) w h, good_of_word (List.all_eq_true.mp zgw_X3 w h)⟩)) (fun w h => ⟨(fun _ h => List.mem_cons_of_mem _ (List.mem_append_right _ h)) w h, good_of_word (List.all_eq_true.mp zgw_X1 w h)⟩))
set_option maxRecDepth 100000 in
theorem zg_zd_X7_go_zd_X7_turn_63_a : GoodIn zw_zd_X7_go [.methodLink RX7 63 yX7_turn, .instanceMethod yX7_turn, .selects RX7 yX7_turn yX7_turn, .initialized RX7] := goodIn_r _ [392, 393, 394, 55] rfl (by decide +kernel)
set_option maxRecDepth 100000 in
theorem zg_zd_X7_go_zd_X7_turn_63_c : GoodIn zw_zd_X7_go [.code yX7_turn cX7_turn 9 none] := goodIn_r _ [302] rfl (by decide +kernel)
set_option maxRecDepth 100000 in
theorem zg_zd_X7_go_zd_X7_turn_63_0 : GoodIn zw_zd_X7_go zw_zd_X7_turn_w0 := goodIn_r _ [88, 18, 56, 89, 90, 91, 55, 19, 58, 60, 25, 303, 203, 304, 305, 306] rfl (by decide +kernel)
set_option maxRecDepth 100000 in
theorem zg_zd_X7_go_zd_X7_turn_63_1 : GoodIn zw_zd_X7_go zw_zd_X7_turn_w1 := goodIn_r _ [196, 307, 308, 77, 28, 309, 79, 80, 36, 242, 243, 244, 38, 39, 40, 41] rfl (by decide +kernel)
set_option maxRecDepth 100000 in
theorem zg_zd_X7_go_zd_X7_turn_63_2 : GoodIn zw_zd_X7_go zw_zd_X7_turn_w2 := goodIn_r _ [310, 1, 311, 9, 10, 312, 12, 13, 14, 313, 314, 315, 316, 66, 317, 318] rfl (by decide +kernel)
set_option maxRecDepth 100000 in
theorem zg_zd_X7_go_zd_X7_turn_63_3 : GoodIn zw_zd_X7_go zw_zd_X7_turn_w3 := goodIn_r _ [319, 320, 321, 322, 323, 32, 324, 325, 326, 327, 328, 74, 329, 330, 331, 332] rfl (by decide +kernel)
set_option maxRecDepth 100000 in
theorem zg_zd_X7_go_zd_X7_turn_63_4 : GoodIn zw_zd_X7_go zw_zd_X7_turn_w4 := goodIn_r _ [333, 334, 335, 336, 337, 338, 339, 340, 341, 342, 343, 344, 345, 346, 347, 348] rfl (by decide +kernel)
set_option maxRecDepth 100000 in
theorem zg_zd_X7_go_zd_X7_turn_63_5 : GoodIn zw_zd_X7_go zw_zd_X7_turn_w5 := goodIn_r _ [349, 350, 351, 352, 353, 354, 204, 355, 356, 357, 50, 51, 52, 53, 54, 358] rfl (by decide +kernel)
set_option maxRecDepth 100000 in
theorem zg_zd_X7_go_zd_X7_turn_63_6 : GoodIn zw_zd_X7_go zw_zd_X7_turn_w6 := goodIn_r _ [359, 360, 361, 20, 21, 22, 362, 363, 364, 365, 366, 26, 367, 368, 369, 69] rfl (by decide +kernel)
set_option maxRecDepth 100000 in
theorem zg_zd_X7_go_zd_X7_turn_63_7 : GoodIn zw_zd_X7_go zw_zd_X7_turn_w7 := goodIn_r _ [70, 370, 72, 73, 371, 372, 373, 374, 375, 92, 59, 376, 377, 378, 141, 379] rfl (by decide +kernel)
set_option maxRecDepth 100000 in
theorem zg_zd_X7_go_zd_X7_turn_63_8 : GoodIn zw_zd_X7_go zw_zd_X7_turn_w8 := goodIn_r _ [380, 381, 84, 65, 382, 383, 384, 385, 94, 68, 386, 387, 388, 389, 390, 391] rfl (by decide +kernel)
theorem zg_zd_X7_go_zd_X7_turn_63 : GoodIn zw_zd_X7_go (wsV RX7 63 RX7 yX7_turn zw_zd_X7_turn) := goodIn_app zg_zd_X7_go_zd_X7_turn_63_a (goodIn_ca (a := (((((((zw_zd_X7_turn_w0 ++ (zw_zd_X7_turn_w1 ++ (zw_zd_X7_turn_w2 ++ (zw_zd_X7_turn_w3 ++ (zw_zd_X7_turn_w4 ++ (zw_zd_X7_turn_w5 ++ (zw_zd_X7_turn_w6 ++ (zw_zd_X7_turn_w7 ++ (zw_zd_X7_turn_w8))))))))) ++ wsX70) ++ wsX40) ++ wsX10) ++ wsX80) ++ wsX100) ++ wsX20)) (goodIn_ca (a := ((((((zw_zd_X7_turn_w0 ++ (zw_zd_X7_turn_w1 ++ (zw_zd_X7_turn_w2 ++ (zw_zd_X7_turn_w3 ++ (zw_zd_X7_turn_w4 ++ (zw_zd_X7_turn_w5 ++ (zw_zd_X7_turn_w6 ++ (zw_zd_X7_turn_w7 ++ (zw_zd_X7_turn_w8))))))))) ++ wsX70) ++ wsX40) ++ wsX10) ++ wsX80) ++ wsX100)) (goodIn_ca (a := (((((zw_zd_X7_turn_w0 ++ (zw_zd_X7_turn_w1 ++ (zw_zd_X7_turn_w2 ++ (zw_zd_X7_turn_w3 ++ (zw_zd_X7_turn_w4 ++ (zw_zd_X7_turn_w5 ++ (zw_zd_X7_turn_w6 ++ (zw_zd_X7_turn_w7 ++ (zw_zd_X7_turn_w8))))))))) ++ wsX70) ++ wsX40) ++ wsX10) ++ wsX80)) (goodIn_ca (a := ((((zw_zd_X7_turn_w0 ++ (zw_zd_X7_turn_w1 ++ (zw_zd_X7_turn_w2 ++ (zw_zd_X7_turn_w3 ++ (zw_zd_X7_turn_w4 ++ (zw_zd_X7_turn_w5 ++ (zw_zd_X7_turn_w6 ++ (zw_zd_X7_turn_w7 ++ (zw_zd_X7_turn_w8))))))))) ++ wsX70) ++ wsX40) ++ wsX10)) (goodIn_ca (a := (((zw_zd_X7_turn_w0 ++ (zw_zd_X7_turn_w1 ++ (zw_zd_X7_turn_w2 ++ (zw_zd_X7_turn_w3 ++ (zw_zd_X7_turn_w4 ++ (zw_zd_X7_turn_w5 ++ (zw_zd_X7_turn_w6 ++ (zw_zd_X7_turn_w7 ++ (zw_zd_X7_turn_w8))))))))) ++ wsX70) ++ wsX40)) (goodIn_ca (a := ((zw_zd_X7_turn_w0 ++ (zw_zd_X7_turn_w1 ++ (zw_zd_X7_turn_w2 ++ (zw_zd_X7_turn_w3 ++ (zw_zd_X7_turn_w4 ++ (zw_zd_X7_turn_w5 ++ (zw_zd_X7_turn_w6 ++ (zw_zd_X7_turn_w7 ++ (zw_zd_X7_turn_w8))))))))) ++ wsX70)) (goodIn_ca (a := (zw_zd_X7_turn_w0 ++ (zw_zd_X7_turn_w1 ++ (zw_zd_X7_turn_w2 ++ (zw_zd_X7_turn_w3 ++ (zw_zd_X7_turn_w4 ++ (zw_zd_X7_turn_w5 ++ (zw_zd_X7_turn_w6 ++ (zw_zd_X7_turn_w7 ++ (zw_zd_X7_turn_w8)))))))))) (show GoodIn zw_zd_X7_go (.code yX7_turn cX7_turn 9 none :: (zw_zd_X7_turn_w0 ++ (zw_zd_X7_turn_w1 ++ (zw_zd_X7_turn_w2 ++ (zw_zd_X7_turn_w3 ++ (zw_zd_X7_turn_w4 ++ (zw_zd_X7_turn_w5 ++ (zw_zd_X7_turn_w6 ++ (zw_zd_X7_turn_w7 ++ (zw_zd_X7_turn_w8)))))))))) from goodIn_app zg_zd_X7_go_zd_X7_turn_63_c (goodIn_app zg_zd_X7_go_zd_X7_turn_63_0 (goodIn_app zg_zd_X7_go_zd_X7_turn_63_1 (goodIn_app zg_zd_X7_go_zd_X7_turn_63_2 (goodIn_app zg_zd_X7_go_zd_X7_turn_63_3 (goodIn_app zg_zd_X7_go_zd_X7_turn_63_4 (goodIn_app zg_zd_X7_go_zd_X7_turn_63_5 (goodIn_app zg_zd_X7_go_zd_X7_turn_63_6 (goodIn_app zg_zd_X7_go_zd_X7_turn_63_7 (zg_zd_X7_go_zd_X7_turn_63_8)))))))))) (fun w h => ⟨(fun _ h => List.mem_cons_of_mem _ (List.mem_append_left _ (List.mem_append_left _ (List.mem_append_left _ (List.mem_append_left _ (List.mem_append_left _ (List.mem_append_left _ (List.mem_append_left _ (List.mem_append_left _ (List.mem_append_left _ (List.mem_append_right _ h))))))))))) w h, good_of_word (List.all_eq_true.mp zgw_X7 w h)⟩)) (fun w h => ⟨(fun _ h => List.mem_cons_of_mem _ (List.mem_append_left _ (List.mem_append_left _ (List.mem_append_left _ (List.mem_append_left _ (List.mem_append_left _ (List.mem_append_left _ (List.mem_append_left _ (List.mem_append_right _ h))))))))) w h, good_of_word (List.all_eq_true.mp zgw_X4 w h)⟩)) (fun w h => ⟨(fun _ h => List.mem_cons_of_mem _ (List.mem_append_right _ h)) w h, good_of_word (List.all_eq_true.mp zgw_X1 w h)⟩)) (fun w h => ⟨(fun _ h => List.mem_cons_of_mem _ (List.mem_append_left _ (List.mem_append_left _ (List.mem_append_left _ (List.mem_append_left _ (List.mem_append_left _ (List.mem_append_left _ (List.mem_append_right _ h)))))))) w h, good_of_word (List.all_eq_true.mp zgw_X8 w h)⟩)) (fun w h => ⟨(fun _ h => List.mem_cons_of_mem _ (List.mem_append_left _ (List.mem_append_left _ (List.mem_append_left _ (List.mem_append_left _ (List.mem_append_left _ (List.mem_append_left _ (List.mem_append_left _ (List.mem_append_left _ (List.mem_append_right _ h)))))))))) w h, good_of_word (List.all_eq_true.mp zgw_X10 w h)⟩)) (fun w h => ⟨(fun _ h => List.mem_cons_of_mem _ (List.mem_append_left _ (List.mem_append_left _ (List.mem_append_left _ (List.mem_append_right _ h))))) w h, good_of_word (List.all_eq_true.mp zgw_X2 w h)⟩)) (fun w h => ⟨(fun _ h => List.mem_cons_of_mem _ (List.mem_append_left _ (List.mem_append_left _ (List.mem_append_left _ (List.mem_append_left _ (List.mem_append_right _ h)))))) w h, good_of_word (List.all_eq_true.mp zgw_X5 w h)⟩))
set_option maxHeartbeats 16000000 in
set_option maxRecDepth 100000 in
theorem zd_X7_go (l : Launch) (D : va_G) (cI cZ cP cF : Nat) (q : Nat → Nat → Nat) (S : CST) (a1 : Int32) (a2 : Int32) (a3 : Int32) (a4 : Int32) (sz : Nat) (Post : CST → Int32 → Prop) (h : wp_X7_go S a1 a2 a3 a4 Post) (hcap : cCap S) : MetV l yX7_go zw_zd_X7_go ({ frames := 6, cells := rmc S, slots := rms S, locals := 151 }) (va_Pc [.ref (q 12 0), .int a1, .int a2, .int a3, .int a4] (fun U => U.heap.size = sz ∧ va_P D vwCl (cW cI cZ cP cF q S) U.heap ∧ zF D cI cZ cP cF U ∧ va_D (fun _ => True) (cW cI cZ cP cF q S))) (xQi (fun S' r => Post S' r) (fun (q' : Nat → Nat → Nat) (S' : CST) k n t => va_P D vwCl (cW cI cZ cP cF q' S') t.heap ∧ va_D (va_A (cW cI cZ cP cF q S) sz) (cW cI cZ cP cF q' S') ∧ cA q S q' S' k n) (va_A (cW cI cZ cP cF q S) sz)) (va_A (cW cI cZ cP cF q S) sz) := by
  unfold wp_X7_go at h
  refine MetV.ofW (cc := cX7_go) (maxL := 6) (ret := (some .int)) (by decide) rfl ?_
  intro p e s m args below meth c s₁ B hml hv
  obtain ⟨rfl, hsz, hP, hE, hD0⟩ := hv
  have hx := B.exec
  have hb := B.bytes
  have hr := B.returns
  have hts := atoms_spec (ws := zw_zd_X7_go) B.pre
  have hown : s.vm.findClass RX7 = some m.cls := findClass_of_methodNamed B.named
  have hlocks := B.notSynchronized
  have hK := hE.k
  subst hsz
  have hD := hD0.self (sz := s.heap.size)
  generalize hAe : va_A (cW cI cZ cP cF q S) s.heap.size = A at hD ⊢
  have hA : ∀ q : Nat, s.heap.size ≤ q → A q := fun q h => by rw [← hAe]; exact Or.inr h
  have hl := lv_entry ([.ref (q 12 0), .int a1, .int a2, .int a3, .int a4]) (n := 6) (Nat.le_of_ble_eq_true rfl)
  rw [lg_entry_eq]
  generalize (lg_sl ([.ref (q 12 0), .int a1, .int a2, .int a3, .int a4]) ++ List.replicate (6 - (lg_sl ([.ref (q 12 0), .int a1, .int a2, .int a3, .int a4])).length) Slot.unset).toArray = ls at hl ⊢
  have hl : lv_has ls 6 [(0, .ref (q 12 0)), (1, .int a1), (2, .int a2), (3, .int a3), (4, .int a4)] := hl
  have key : ∀ (H : Heap) (locs : List Loc) (cells slots : Nat), va_P D vwCl (cW cI cZ cP cF q S) H → va_S A s.heap H locs → cA q S q S cells slots → W p l e (headSpec zw_zd_X7_go ({ frames := 6, cells := rmc S, slots := rms S, locals := 151 })).room s m ([.ref (q 12 0), .int a1, .int a2, .int a3, .int a4] : List Value).toArray below meth c H locs cells slots (MQV below (xQi (fun S' r => Post S' r) (fun (q' : Nat → Nat → Nat) (S' : CST) k n t => va_P D vwCl (cW cI cZ cP cF q' S') t.heap ∧ va_D A (cW cI cZ cP cF q' S') ∧ cA q S q' S' k n) A) ([.ref (q 12 0), .int a1, .int a2, .int a3, .int a4] : List Value).toArray s A) (F0 m 0 ls []) := by
    intro H locs cells slots hP hS hN
    refine lv_aload_n hx hb dX7_go_0 rfl (lv_at hl 0 rfl) ?_
    obtain ⟨p_1, hp_1⟩ := cget_12 cI cZ cP cF q S
    have hi_1 : cin S 12 0 := Or.inl ⟨by decide, rfl⟩
    refine va_get (D := D) (ci := 7) (v := .ref (q 20 0)) (C := RX7) (T := TX7) (N := 10) hx hb hts (fun _ h => List.mem_cons_of_mem _ (List.mem_append_left _ (List.mem_append_left _ (List.mem_append_left _ (List.mem_append_left _ (List.mem_append_left _ (List.mem_append_left _ (List.mem_append_left _ (List.mem_append_left _ (List.mem_append_left _ (List.mem_append_right _ h))))))))))) hown hK hP p_1 hp_1 rfl 3 (by decide) (hts (.fieldLink RX7 12 "TemplateForge$Machine" "tally" "LTemplateForge$Tally;") (List.mem_of_getElem? (i := 1) rfl)) (fun _ h9 => h9) rfl dX7_go_1 ?_
    obtain ⟨p_2, hp_2⟩ := cget_20 cI cZ cP cF q S
    have hi_2 : cin S 20 0 := Or.inl ⟨by decide, rfl⟩
    have hFc := zm_free hD hS hA
    refine va_callv (va_runV (As := []) (rest := []) ⟨hx, hb, hml, hown, hts⟩ (zd_X10_beginRun l D cI cZ cP cF q S  H.size _ h) (cwV 0 hts zg_zd_X7_go_zd_X10_beginRun_46 rfl rfl rfl (by decide +kernel) ⟨Nat.le_of_ble_eq_true rfl, Nat.le_of_ble_eq_true rfl⟩) ⟨zCW, va_recv hK hP (ci := 10) (q0 := p_2) rfl hp_2, fun U hU hW => ⟨rfl, by rw [hU], by rw [hU]; exact hP, hE.warm hW, hD.weaken (fun _ _ _ _ => trivial)⟩⟩ rfl rfl hl.1 rfl (lv_room (Nat.le_of_ble_eq_true rfl)) dX7_go_4 (cA_le hN)) hS (fun q _ h => hFc q h) hFc (fun S3 t H locs ht hvm h hB hz1 hk1 hS => ?_)
    obtain ⟨hP, hD1, hN1⟩ := hB
    rw [ht] at hP
    have hD := hD1.weaken (fun k q _ hq => hFc q.1 hq)
    have hN := cA_keep hN hN1
    refine lv_aload_n hx hb dX7_go_7 rfl (lv_at hl 0 rfl) ?_
    refine lv_iconst (v := 0) hx hb dX7_go_8 (by decide) ?_
    obtain ⟨p_4, hp_4⟩ := cget_12 cI cZ cP cF q S3
    have hi_4 : cin S3 12 0 := Or.inl ⟨by decide, rfl⟩
    have hD0_4 := hD
    refine va_put (D := D) (ci := 7) (v := .int 0) (ty := .int) (C := RX7) (T := TX7) (N := 10) hx hb hts (fun _ h => List.mem_cons_of_mem _ (List.mem_append_left _ (List.mem_append_left _ (List.mem_append_left _ (List.mem_append_left _ (List.mem_append_left _ (List.mem_append_left _ (List.mem_append_left _ (List.mem_append_left _ (List.mem_append_left _ (List.mem_append_right _ h))))))))))) tyX7 tyX7_ok nmX7 hown hK hP hD hS p_4 hp_4 rfl 6 (by decide) (hts (.fieldLink RX7 49 "TemplateForge$Machine" "open" "I") (List.mem_of_getElem? (i := 18) rfl)) (fun _ h9 => h9) rfl (by decide +kernel) rfl rfl (Nat.le_of_ble_eq_true rfl) dX7_go_9 (fun H locs hP hD hS => ?_)
    obtain ⟨S5, eS5⟩ : ∃ z, z = cs S3 126 0 (fun _ => 0) := ⟨_, rfl⟩
    have hP : va_P D vwCl (cW cI cZ cP cF q S5) H := by rw [eS5, ← cW_put (k := 126) (κ := 12) (i := 0) (g := (fun _ => 0)) rfl hD0_4 hp_4 hi_4, cput_126]; exact hP
    have hD : va_D A (cW cI cZ cP cF q S5) := by rw [eS5, ← cW_put (k := 126) (κ := 12) (i := 0) (g := (fun _ => 0)) rfl hD0_4 hp_4 hi_4, cput_126]; exact hD
    have hN := cA_keep hN (S2 := S5) ((congrArg Prod.snd eS5).trans rfl)
    have h := h S5 eS5
    refine lv_aload_n hx hb dX7_go_12 rfl (lv_at hl 0 rfl) ?_
    refine lv_iconst (v := 4) hx hb dX7_go_13 (by decide) ?_
    obtain ⟨p_6, hp_6⟩ := cget_12 cI cZ cP cF q S5
    have hi_6 : cin S5 12 0 := Or.inl ⟨by decide, rfl⟩
    have hD0_6 := hD
    refine va_put (D := D) (ci := 7) (v := .int 4) (ty := .int) (C := RX7) (T := TX7) (N := 10) hx hb hts (fun _ h => List.mem_cons_of_mem _ (List.mem_append_left _ (List.mem_append_left _ (List.mem_append_left _ (List.mem_append_left _ (List.mem_append_left _ (List.mem_append_left _ (List.mem_append_left _ (List.mem_append_left _ (List.mem_append_left _ (List.mem_append_right _ h))))))))))) tyX7 tyX7_ok nmX7 hown hK hP hD hS p_6 hp_6 rfl 7 (by decide) (hts (.fieldLink RX7 53 "TemplateForge$Machine" "ending" "I") (List.mem_of_getElem? (i := 19) rfl)) (fun _ h9 => h9) rfl (by decide +kernel) rfl rfl (Nat.le_of_ble_eq_true rfl) dX7_go_14 (fun H locs hP hD hS => ?_)
    obtain ⟨S7, eS7⟩ : ∃ z, z = cs S5 127 0 (fun _ => 4) := ⟨_, rfl⟩
    have hP : va_P D vwCl (cW cI cZ cP cF q S7) H := by rw [eS7, ← cW_put (k := 127) (κ := 12) (i := 0) (g := (fun _ => 4)) rfl hD0_6 hp_6 hi_6, cput_127]; exact hP
    have hD : va_D A (cW cI cZ cP cF q S7) := by rw [eS7, ← cW_put (k := 127) (κ := 12) (i := 0) (g := (fun _ => 4)) rfl hD0_6 hp_6 hi_6, cput_127]; exact hD
    have hN := cA_keep hN (S2 := S7) ((congrArg Prod.snd eS7).trans rfl)
    have h := h S7 eS7
    refine lv_aload_n hx hb dX7_go_17 rfl (lv_at hl 0 rfl) ?_
    refine lv_iload_n hx hb dX7_go_18 rfl (lv_at hl 1 rfl) ?_
    obtain ⟨p_8, hp_8⟩ := cget_12 cI cZ cP cF q S7
    have hi_8 : cin S7 12 0 := Or.inl ⟨by decide, rfl⟩
    have hD0_8 := hD
    refine va_put (D := D) (ci := 7) (v := .int a1) (ty := .int) (C := RX7) (T := TX7) (N := 10) hx hb hts (fun _ h => List.mem_cons_of_mem _ (List.mem_append_left _ (List.mem_append_left _ (List.mem_append_left _ (List.mem_append_left _ (List.mem_append_left _ (List.mem_append_left _ (List.mem_append_left _ (List.mem_append_left _ (List.mem_append_left _ (List.mem_append_right _ h))))))))))) tyX7 tyX7_ok nmX7 hown hK hP hD hS p_8 hp_8 rfl 8 (by decide) (hts (.fieldLink RX7 56 "TemplateForge$Machine" "called" "I") (List.mem_of_getElem? (i := 20) rfl)) (fun _ h9 => h9) rfl (by decide +kernel) rfl rfl (Nat.le_of_ble_eq_true rfl) dX7_go_19 (fun H locs hP hD hS => ?_)
    obtain ⟨S9, eS9⟩ : ∃ z, z = cs S7 128 0 (fun _ => a1) := ⟨_, rfl⟩
    have hP : va_P D vwCl (cW cI cZ cP cF q S9) H := by rw [eS9, ← cW_put (k := 128) (κ := 12) (i := 0) (g := (fun _ => a1)) rfl hD0_8 hp_8 hi_8, cput_128]; exact hP
    have hD : va_D A (cW cI cZ cP cF q S9) := by rw [eS9, ← cW_put (k := 128) (κ := 12) (i := 0) (g := (fun _ => a1)) rfl hD0_8 hp_8 hi_8, cput_128]; exact hD
    have hN := cA_keep hN (S2 := S9) ((congrArg Prod.snd eS9).trans rfl)
    have h := h S9 eS9
    refine lv_aload_n hx hb dX7_go_22 rfl (lv_at hl 0 rfl) ?_
    refine lv_iconst (v := 0) hx hb dX7_go_23 (by decide) ?_
    obtain ⟨p_10, hp_10⟩ := cget_12 cI cZ cP cF q S9
    have hi_10 : cin S9 12 0 := Or.inl ⟨by decide, rfl⟩
    have hD0_10 := hD
    refine va_put (D := D) (ci := 7) (v := .int 0) (ty := .int) (C := RX7) (T := TX7) (N := 10) hx hb hts (fun _ h => List.mem_cons_of_mem _ (List.mem_append_left _ (List.mem_append_left _ (List.mem_append_left _ (List.mem_append_left _ (List.mem_append_left _ (List.mem_append_left _ (List.mem_append_left _ (List.mem_append_left _ (List.mem_append_left _ (List.mem_append_right _ h))))))))))) tyX7 tyX7_ok nmX7 hown hK hP hD hS p_10 hp_10 rfl 9 (by decide) (hts (.fieldLink RX7 59 "TemplateForge$Machine" "into" "I") (List.mem_of_getElem? (i := 21) rfl)) (fun _ h9 => h9) rfl (by decide +kernel) rfl rfl (Nat.le_of_ble_eq_true rfl) dX7_go_24 (fun H locs hP hD hS => ?_)
    obtain ⟨S11, eS11⟩ : ∃ z, z = cs S9 129 0 (fun _ => 0) := ⟨_, rfl⟩
    have hP : va_P D vwCl (cW cI cZ cP cF q S11) H := by rw [eS11, ← cW_put (k := 129) (κ := 12) (i := 0) (g := (fun _ => 0)) rfl hD0_10 hp_10 hi_10, cput_129]; exact hP
    have hD : va_D A (cW cI cZ cP cF q S11) := by rw [eS11, ← cW_put (k := 129) (κ := 12) (i := 0) (g := (fun _ => 0)) rfl hD0_10 hp_10 hi_10, cput_129]; exact hD
    have hN := cA_keep hN (S2 := S11) ((congrArg Prod.snd eS11).trans rfl)
    have h := h S11 eS11
    refine lv_aload_n hx hb dX7_go_27 rfl (lv_at hl 0 rfl) ?_
    obtain ⟨p_12, hp_12⟩ := cget_12 cI cZ cP cF q S11
    have hi_12 : cin S11 12 0 := Or.inl ⟨by decide, rfl⟩
    refine va_get (D := D) (ci := 7) (v := .ref (q 14 0)) (C := RX7) (T := TX7) (N := 10) hx hb hts (fun _ h => List.mem_cons_of_mem _ (List.mem_append_left _ (List.mem_append_left _ (List.mem_append_left _ (List.mem_append_left _ (List.mem_append_left _ (List.mem_append_left _ (List.mem_append_left _ (List.mem_append_left _ (List.mem_append_left _ (List.mem_append_right _ h))))))))))) hown hK hP p_12 hp_12 rfl 5 (by decide) (hts (.fieldLink RX7 24 "TemplateForge$Machine" "handed" "[I") (List.mem_of_getElem? (i := 22) rfl)) (fun _ h9 => h9) rfl dX7_go_28 ?_
    refine lv_iconst (v := 0) hx hb dX7_go_31 (by decide) ?_
    refine lv_iload_n hx hb dX7_go_32 rfl (lv_at hl 2 rfl) ?_
    obtain ⟨p_13, hp_13⟩ := cget_14 cI cZ cP cF q S11
    have hi_13 : cin S11 14 0 := Or.inl ⟨by decide, rfl⟩
    have hin_13 := h.1
    have h := h.2
    have hD0_13 := hD
    refine va_iast hx hb hK hP hD hS p_13 0 hp_13 rfl hin_13 dX7_go_33 (fun H locs hP hD hS => ?_)
    obtain ⟨S14, eS14⟩ : ∃ z, z = cs S11 140 0 (upd (cv S11 140 0) (0 : Int32).toNatClampNeg a2) := ⟨_, rfl⟩
    have hP : va_P D vwCl (cW cI cZ cP cF q S14) H := by rw [eS14, ← cW_put (k := 140) (κ := 14) (i := 0) (g := (upd (cv S11 140 0) (0 : Int32).toNatClampNeg a2)) rfl hD0_13 hp_13 hi_13, cput_140]; exact hP
    have hD : va_D A (cW cI cZ cP cF q S14) := by rw [eS14, ← cW_put (k := 140) (κ := 14) (i := 0) (g := (upd (cv S11 140 0) (0 : Int32).toNatClampNeg a2)) rfl hD0_13 hp_13 hi_13, cput_140]; exact hD
    have hN := cA_keep hN (S2 := S14) ((congrArg Prod.snd eS14).trans rfl)
    have h := h S14 eS14
    refine lv_aload_n hx hb dX7_go_34 rfl (lv_at hl 0 rfl) ?_
    obtain ⟨p_15, hp_15⟩ := cget_12 cI cZ cP cF q S14
    have hi_15 : cin S14 12 0 := Or.inl ⟨by decide, rfl⟩
    refine va_get (D := D) (ci := 7) (v := .ref (q 14 0)) (C := RX7) (T := TX7) (N := 10) hx hb hts (fun _ h => List.mem_cons_of_mem _ (List.mem_append_left _ (List.mem_append_left _ (List.mem_append_left _ (List.mem_append_left _ (List.mem_append_left _ (List.mem_append_left _ (List.mem_append_left _ (List.mem_append_left _ (List.mem_append_left _ (List.mem_append_right _ h))))))))))) hown hK hP p_15 hp_15 rfl 5 (by decide) (hts (.fieldLink RX7 24 "TemplateForge$Machine" "handed" "[I") (List.mem_of_getElem? (i := 22) rfl)) (fun _ h9 => h9) rfl dX7_go_35 ?_
    refine lv_iconst (v := 1) hx hb dX7_go_38 (by decide) ?_
    refine lv_iload_n hx hb dX7_go_39 rfl (lv_at hl 3 rfl) ?_
    obtain ⟨p_16, hp_16⟩ := cget_14 cI cZ cP cF q S14
    have hi_16 : cin S14 14 0 := Or.inl ⟨by decide, rfl⟩
    have hin_16 := h.1
    have h := h.2
    have hD0_16 := hD
    refine va_iast hx hb hK hP hD hS p_16 0 hp_16 rfl hin_16 dX7_go_40 (fun H locs hP hD hS => ?_)
    obtain ⟨S17, eS17⟩ : ∃ z, z = cs S14 140 0 (upd (cv S14 140 0) (1 : Int32).toNatClampNeg a3) := ⟨_, rfl⟩
    have hP : va_P D vwCl (cW cI cZ cP cF q S17) H := by rw [eS17, ← cW_put (k := 140) (κ := 14) (i := 0) (g := (upd (cv S14 140 0) (1 : Int32).toNatClampNeg a3)) rfl hD0_16 hp_16 hi_16, cput_140]; exact hP
    have hD : va_D A (cW cI cZ cP cF q S17) := by rw [eS17, ← cW_put (k := 140) (κ := 14) (i := 0) (g := (upd (cv S14 140 0) (1 : Int32).toNatClampNeg a3)) rfl hD0_16 hp_16 hi_16, cput_140]; exact hD
    have hN := cA_keep hN (S2 := S17) ((congrArg Prod.snd eS17).trans rfl)
    have h := h S17 eS17
    refine lv_aload_n hx hb dX7_go_41 rfl (lv_at hl 0 rfl) ?_
    obtain ⟨p_18, hp_18⟩ := cget_12 cI cZ cP cF q S17
    have hi_18 : cin S17 12 0 := Or.inl ⟨by decide, rfl⟩
    refine va_get (D := D) (ci := 7) (v := .ref (q 14 0)) (C := RX7) (T := TX7) (N := 10) hx hb hts (fun _ h => List.mem_cons_of_mem _ (List.mem_append_left _ (List.mem_append_left _ (List.mem_append_left _ (List.mem_append_left _ (List.mem_append_left _ (List.mem_append_left _ (List.mem_append_left _ (List.mem_append_left _ (List.mem_append_left _ (List.mem_append_right _ h))))))))))) hown hK hP p_18 hp_18 rfl 5 (by decide) (hts (.fieldLink RX7 24 "TemplateForge$Machine" "handed" "[I") (List.mem_of_getElem? (i := 22) rfl)) (fun _ h9 => h9) rfl dX7_go_42 ?_
    refine lv_iconst (v := 2) hx hb dX7_go_45 (by decide) ?_
    refine lv_iload hx hb dX7_go_46 (lv_at hl 4 rfl) ?_
    obtain ⟨p_19, hp_19⟩ := cget_14 cI cZ cP cF q S17
    have hi_19 : cin S17 14 0 := Or.inl ⟨by decide, rfl⟩
    have hin_19 := h.1
    have h := h.2
    have hD0_19 := hD
    refine va_iast hx hb hK hP hD hS p_19 0 hp_19 rfl hin_19 dX7_go_48 (fun H locs hP hD hS => ?_)
    obtain ⟨S20, eS20⟩ : ∃ z, z = cs S17 140 0 (upd (cv S17 140 0) (2 : Int32).toNatClampNeg a4) := ⟨_, rfl⟩
    have hP : va_P D vwCl (cW cI cZ cP cF q S20) H := by rw [eS20, ← cW_put (k := 140) (κ := 14) (i := 0) (g := (upd (cv S17 140 0) (2 : Int32).toNatClampNeg a4)) rfl hD0_19 hp_19 hi_19, cput_140]; exact hP
    have hD : va_D A (cW cI cZ cP cF q S20) := by rw [eS20, ← cW_put (k := 140) (κ := 14) (i := 0) (g := (upd (cv S17 140 0) (2 : Int32).toNatClampNeg a4)) rfl hD0_19 hp_19 hi_19, cput_140]; exact hD
    have hN := cA_keep hN (S2 := S20) ((congrArg Prod.snd eS20).trans rfl)
    have h := h S20 eS20
    refine lv_iconst (v := 0) hx hb dX7_go_49 (by decide) ?_
    refine lv_istore (lv' := [(5, .int 0), (0, .ref (q 12 0)), (1, .int a1), (2, .int a2), (3, .int a3), (4, .int a4)]) hx hb dX7_go_50 hl (by decide) rfl (fun ls hl => ?_)
    have EX_52_96 : ∀ (q_96 : Nat → Nat → Nat) (S_96 : CST) (H : Heap) (locs : List Loc) (cells slots : Nat) (ls : Array Slot), (((¬ (((cv S_96 127 0 0) : Int32) = 4)) → (Post S_96 (cv S_96 127 0 0))) ∧ ((((cv S_96 127 0 0) : Int32) = 4) → (Post S_96 3))) → va_P D vwCl (cW cI cZ cP cF q_96 S_96) H → va_D A (cW cI cZ cP cF q_96 S_96) → va_S A s.heap H locs → cA q S q_96 S_96 cells slots → lv_has ls 6 [(0, .ref (q_96 12 0))] → W p l e (headSpec zw_zd_X7_go ({ frames := 6, cells := rmc S, slots := rms S, locals := 151 })).room s m ([.ref (q 12 0), .int a1, .int a2, .int a3, .int a4] : List Value).toArray below meth c H locs cells slots (MQV below (xQi (fun S' r => Post S' r) (fun (q' : Nat → Nat → Nat) (S' : CST) k n t => va_P D vwCl (cW cI cZ cP cF q' S') t.heap ∧ va_D A (cW cI cZ cP cF q' S') ∧ cA q S q' S' k n) A) ([.ref (q 12 0), .int a1, .int a2, .int a3, .int a4] : List Value).toArray s A) (F0 m 96 ls []) := by
      intro q_96 S_96  H locs cells slots ls h hP hD hS hN hl
      refine lv_aload_n hx hb dX7_go_96 rfl (lv_at hl 0 rfl) ?_
      obtain ⟨p_21, hp_21⟩ := cget_12 cI cZ cP cF q_96 S_96
      have hi_21 : cin S_96 12 0 := Or.inl ⟨by decide, rfl⟩
      refine va_get (D := D) (ci := 7) (v := .int (cv S_96 127 0 0)) (C := RX7) (T := TX7) (N := 10) hx hb hts (fun _ h => List.mem_cons_of_mem _ (List.mem_append_left _ (List.mem_append_left _ (List.mem_append_left _ (List.mem_append_left _ (List.mem_append_left _ (List.mem_append_left _ (List.mem_append_left _ (List.mem_append_left _ (List.mem_append_left _ (List.mem_append_right _ h))))))))))) hown hK hP p_21 hp_21 rfl 7 (by decide) (hts (.fieldLink RX7 53 "TemplateForge$Machine" "ending" "I") (List.mem_of_getElem? (i := 19) rfl)) (fun _ h9 => h9) rfl dX7_go_97 ?_
      refine lv_iconst (v := 4) hx hb dX7_go_100 (by decide) ?_
      refine lv_icmp_ne (tgt := 108) hx hb dX7_go_101 (by decide) (fun c_22 => ?_) (fun c_22 => ?_)
      · have h := h.1 c_22
        refine lv_aload_n hx hb dX7_go_108 rfl (lv_at hl 0 rfl) ?_
        obtain ⟨p_23, hp_23⟩ := cget_12 cI cZ cP cF q_96 S_96
        have hi_23 : cin S_96 12 0 := Or.inl ⟨by decide, rfl⟩
        refine va_get (D := D) (ci := 7) (v := .int (cv S_96 127 0 0)) (C := RX7) (T := TX7) (N := 10) hx hb hts (fun _ h => List.mem_cons_of_mem _ (List.mem_append_left _ (List.mem_append_left _ (List.mem_append_left _ (List.mem_append_left _ (List.mem_append_left _ (List.mem_append_left _ (List.mem_append_left _ (List.mem_append_left _ (List.mem_append_left _ (List.mem_append_right _ h))))))))))) hown hK hP p_23 hp_23 rfl 7 (by decide) (hts (.fieldLink RX7 53 "TemplateForge$Machine" "ending" "I") (List.mem_of_getElem? (i := 19) rfl)) (fun _ h9 => h9) rfl dX7_go_109 ?_
        exact zV_i (v := cv S_96 127 0 0) hx hb hr (fun t ht hW => ⟨⟨_, q_96, S_96, rfl, h, by rw [ht]; exact hP, hD, hN⟩, hS.F ht⟩) hS.2.2 dX7_go_112 hlocks
      · have h := h.2 c_22
        refine lv_iconst (v := 3) hx hb dX7_go_104 (by decide) ?_
        refine lv_goto (tgt := 112) hx hb dX7_go_105 (by decide) ?_
        exact zV_i (v := 3) hx hb hr (fun t ht hW => ⟨⟨_, q_96, S_96, rfl, h, by rw [ht]; exact hP, hD, hN⟩, hS.F ht⟩) hS.2.2 dX7_go_112 hlocks
    have LP_52 : ∀ (n_52 : Nat), ∀ (q_52 : Nat → Nat → Nat) (S_52 : CST) (x52_5 : Int32) (H : Heap) (locs : List Loc) (cells slots : Nat) (ls : Array Slot), wl_X7_go_52 (fun S_96 => ((¬ (((cv S_96 127 0 0) : Int32) = 4)) → (Post S_96 (cv S_96 127 0 0))) ∧ ((((cv S_96 127 0 0) : Int32) = 4) → (Post S_96 3))) Post n_52 S_52 x52_5 → va_P D vwCl (cW cI cZ cP cF q_52 S_52) H → va_D A (cW cI cZ cP cF q_52 S_52) → va_S A s.heap H locs → cA q S q_52 S_52 cells slots → lv_has ls 6 [(0, .ref (q_52 12 0)), (5, .int x52_5)] → W p l e (headSpec zw_zd_X7_go ({ frames := 6, cells := rmc S, slots := rms S, locals := 151 })).room s m ([.ref (q 12 0), .int a1, .int a2, .int a3, .int a4] : List Value).toArray below meth c H locs cells slots (MQV below (xQi (fun S' r => Post S' r) (fun (q' : Nat → Nat → Nat) (S' : CST) k n t => va_P D vwCl (cW cI cZ cP cF q' S') t.heap ∧ va_D A (cW cI cZ cP cF q' S') ∧ cA q S q' S' k n) A) ([.ref (q 12 0), .int a1, .int a2, .int a3, .int a4] : List Value).toArray s A) (F0 m 52 ls []) := by
      intro n_52
      induction n_52 with
      | zero =>
        intro q_52 S_52 x52_5 H locs cells slots ls h hP hD hS hN hl
        exact False.elim h
      | succ n_52 ih_52 =>
        intro q_52 S_52 x52_5 H locs cells slots ls h hP hD hS hN hl
        unfold wl_X7_go_52 at h
        refine lv_iload hx hb dX7_go_52 (lv_at hl 1 rfl) ?_
        refine lv_ldc hx hb hown (hts (.constant RX7 62 (4000000)) (List.mem_of_getElem? (i := 23) rfl)) dX7_go_54 ?_
        refine lv_icmp_ge (tgt := 96) hx hb dX7_go_56 (by decide) (fun c_24 => ?_) (fun c_24 => ?_)
        · have h := h.1 c_24
          exact EX_52_96  q_52 S_52  H locs _ _ _ h hP hD hS hN (lv_sub hl [0] rfl)
        · have h := h.2 c_24
          refine lv_aload_n hx hb dX7_go_59 rfl (lv_at hl 0 rfl) ?_
          obtain ⟨p_25, hp_25⟩ := cget_12 cI cZ cP cF q_52 S_52
          have hi_25 : cin S_52 12 0 := Or.inl ⟨by decide, rfl⟩
          refine va_get (D := D) (ci := 7) (v := .int (cv S_52 127 0 0)) (C := RX7) (T := TX7) (N := 10) hx hb hts (fun _ h => List.mem_cons_of_mem _ (List.mem_append_left _ (List.mem_append_left _ (List.mem_append_left _ (List.mem_append_left _ (List.mem_append_left _ (List.mem_append_left _ (List.mem_append_left _ (List.mem_append_left _ (List.mem_append_left _ (List.mem_append_right _ h))))))))))) hown hK hP p_25 hp_25 rfl 7 (by decide) (hts (.fieldLink RX7 53 "TemplateForge$Machine" "ending" "I") (List.mem_of_getElem? (i := 19) rfl)) (fun _ h9 => h9) rfl dX7_go_60 ?_
          refine lv_iconst (v := 4) hx hb dX7_go_63 (by decide) ?_
          refine lv_icmp_ne (tgt := 96) hx hb dX7_go_64 (by decide) (fun c_26 => ?_) (fun c_26 => ?_)
          · have h := h.1 c_26
            exact EX_52_96  q_52 S_52  H locs _ _ _ h hP hD hS hN (lv_sub hl [0] rfl)
          · have h := h.2 c_26
            refine lv_aload_n hx hb dX7_go_67 rfl (lv_at hl 0 rfl) ?_
            obtain ⟨p_27, hp_27⟩ := cget_12 cI cZ cP cF q_52 S_52
            have hi_27 : cin S_52 12 0 := Or.inl ⟨by decide, rfl⟩
            refine va_get (D := D) (ci := 7) (v := .int (cv S_52 128 0 0)) (C := RX7) (T := TX7) (N := 10) hx hb hts (fun _ h => List.mem_cons_of_mem _ (List.mem_append_left _ (List.mem_append_left _ (List.mem_append_left _ (List.mem_append_left _ (List.mem_append_left _ (List.mem_append_left _ (List.mem_append_left _ (List.mem_append_left _ (List.mem_append_left _ (List.mem_append_right _ h))))))))))) hown hK hP p_27 hp_27 rfl 8 (by decide) (hts (.fieldLink RX7 56 "TemplateForge$Machine" "called" "I") (List.mem_of_getElem? (i := 20) rfl)) (fun _ h9 => h9) rfl dX7_go_68 ?_
            refine lv_iconst (v := (-1)) hx hb dX7_go_71 (by decide) ?_
            refine lv_icmp_ne (tgt := 82) hx hb dX7_go_72 (by decide) (fun c_28 => ?_) (fun c_28 => ?_)
            · have h := h.1 c_28
              refine lv_aload_n hx hb dX7_go_82 rfl (lv_at hl 0 rfl) ?_
              obtain ⟨p_29, hp_29⟩ := cget_12 cI cZ cP cF q_52 S_52
              have hi_29 : cin S_52 12 0 := Or.inl ⟨by decide, rfl⟩
              have hFc := zm_free hD hS hA
              refine va_callv (va_runV (As := []) (rest := []) ⟨hx, hb, hml, hown, hts⟩ (zd_X7_begin l D cI cZ cP cF q_52 S_52  H.size _ h) (cwV 0 hts zg_zd_X7_go_zd_X7_begin_66 rfl rfl rfl (by decide +kernel) ⟨Nat.le_of_ble_eq_true rfl, Nat.le_of_ble_eq_true rfl⟩) ⟨zCW, va_recv hK hP (ci := 7) (q0 := p_29) rfl hp_29, fun U hU hW => ⟨rfl, by rw [hU], by rw [hU]; exact hP, hE.warm hW, hD.weaken (fun _ _ _ _ => trivial)⟩⟩ rfl rfl hl.1 rfl (lv_room (Nat.le_of_ble_eq_true rfl)) dX7_go_83 (cA_le hN)) hS (fun q _ h => hFc q h) hFc (fun S30 t H locs ht hvm h hB hz1 hk1 hS => ?_)
              obtain ⟨hP, hD1, hN1⟩ := hB
              rw [ht] at hP
              have hD := hD1.weaken (fun k q _ hq => hFc q.1 hq)
              have hN := cA_keep hN hN1
              refine lv_aload_n hx hb dX7_go_86 rfl (lv_at hl 0 rfl) ?_
              obtain ⟨p_31, hp_31⟩ := cget_12 cI cZ cP cF q_52 S30
              have hi_31 : cin S30 12 0 := Or.inl ⟨by decide, rfl⟩
              have hFc := zm_free hD hS hA
              refine xc_v (z_runV (As := []) (rest := []) ⟨hx, hb, hml, hown, hts⟩ (zd_X7_choosePath l D cI cZ cP cF q_52 S30  H.size _ h (cA_cap hN)) (cwV 0 hts zg_zd_X7_go_zd_X7_choosePath_69 rfl rfl rfl (by decide +kernel) ⟨Nat.le_of_ble_eq_true rfl, Nat.le_of_ble_eq_true rfl⟩) ⟨zCW, va_recv hK hP (ci := 7) (q0 := p_31) rfl hp_31, fun U hU hW => ⟨rfl, by rw [hU], by rw [hU]; exact hP, hE.warm hW, hD.weaken (fun _ _ _ _ => trivial)⟩⟩ rfl rfl hl.1 rfl (lv_room (Nat.le_of_ble_eq_true rfl)) dX7_go_87 (cA_room hN)) hS (fun q _ h => hFc q h) hFc (fun q33 S33 k n t H locs ht hvm h hB hz1 hk1 hS => ?_)
              obtain ⟨hP, hD1, hN1⟩ := hB
              rw [ht] at hP
              have hD := hD1.weaken (fun k q _ hq => hFc q.1 hq)
              have e_32 : q33 12 0 = q_52 12 0 := hN1.1 12 0 (Or.inl ⟨by decide, rfl⟩)
              have hN := cA_step hN hN1.1 hN1.2
              have hl : lv_has ls 6 [(0, .ref (q33 12 0)), (5, .int x52_5)] := by simp only [e_32]; exact hl
              refine lv_iinc (v := x52_5 + 1) (lv' := [(5, .int (x52_5 + 1)), (0, .ref (q33 12 0))]) hx hb dX7_go_90 hl (k := 1) rfl rfl (by decide) rfl (fun ls hl => ?_)
              refine lv_goto (tgt := 52) hx hb dX7_go_93 (by decide) ?_
              exact ih_52  q33 S33 (x52_5 + 1) H locs _ _ _ h hP hD hS hN (lv_sub hl [1, 0] rfl)
            · have h := h.2 c_28
              refine lv_aload_n hx hb dX7_go_75 rfl (lv_at hl 0 rfl) ?_
              obtain ⟨p_34, hp_34⟩ := cget_12 cI cZ cP cF q_52 S_52
              have hi_34 : cin S_52 12 0 := Or.inl ⟨by decide, rfl⟩
              have hFc := zm_free hD hS hA
              refine va_callv (va_runV (As := []) (rest := []) ⟨hx, hb, hml, hown, hts⟩ (zd_X7_turn l D cI cZ cP cF q_52 S_52  H.size _ h) (cwV 0 hts zg_zd_X7_go_zd_X7_turn_63 rfl rfl rfl (by decide +kernel) ⟨Nat.le_of_ble_eq_true rfl, Nat.le_of_ble_eq_true rfl⟩) ⟨zCW, va_recv hK hP (ci := 7) (q0 := p_34) rfl hp_34, fun U hU hW => ⟨rfl, by rw [hU], by rw [hU]; exact hP, hE.warm hW, hD.weaken (fun _ _ _ _ => trivial)⟩⟩ rfl rfl hl.1 rfl (lv_room (Nat.le_of_ble_eq_true rfl)) dX7_go_76 (cA_le hN)) hS (fun q _ h => hFc q h) hFc (fun S35 t H locs ht hvm h hB hz1 hk1 hS => ?_)
              obtain ⟨hP, hD1, hN1⟩ := hB
              rw [ht] at hP
              have hD := hD1.weaken (fun k q _ hq => hFc q.1 hq)
              have hN := cA_keep hN hN1
              refine lv_goto (tgt := 90) hx hb dX7_go_79 (by decide) ?_
              refine lv_iinc (v := x52_5 + 1) (lv' := [(5, .int (x52_5 + 1)), (0, .ref (q_52 12 0))]) hx hb dX7_go_90 hl (k := 1) rfl rfl (by decide) rfl (fun ls hl => ?_)
              refine lv_goto (tgt := 52) hx hb dX7_go_93 (by decide) ?_
              exact ih_52  q_52 S35 (x52_5 + 1) H locs _ _ _ h hP hD hS hN (lv_sub hl [1, 0] rfl)
    obtain ⟨n_52, h⟩ := h
    exact LP_52 n_52 q S20 0 H locs _ _ _ h hP hD hS hN (lv_sub hl [1, 0] rfl)
  exact key _ _ 0 0 hP va_S.rf (cA_rf hcap)

def wp_X11_method (S : CST) (a1 : Int32) (a2 : Int32) (Post : CST → Int32 → Prop) : Prop :=
  (((a1 : Int32) < 0) → (Post S (-2))) ∧ ((¬ ((a1 : Int32) < 0)) → (((3 < a1) → (Post S (-2))) ∧ ((¬ (3 < a1)) → ((((a2 : Int32) < a1) → (Post S (-2))) ∧ ((¬ ((a2 : Int32) < a1)) → ((((a2 : Int32) ≤ 6) → (wp_X0_tell S a1 a2 (fun S8 r8 => Post S8 r8))) ∧ ((¬ ((a2 : Int32) ≤ 6)) → (Post S (-2)))))))))
def zw_zd_X11_method_w0 : List Cond := [.fieldLink RX11 15 "TemplateForge" "book" "LTemplateForge$Book;", .code yX0_tell cX0_tell 3 (some .int), .fieldLink RX0 17 "TemplateForge$Book" "told" "I", .fieldLink RX0 11 "TemplateForge$Book" "programs" "[LTemplateForge$Program;", .classLink RX0 9 RX8, .instantiable RX8 10, .initialized RX8, .code yX8_init cX8_init 4 none, .methodLink RX8 3 objectInit, .instanceMethod objectInit, .code objectInit ⟨#[0xb1]⟩ 1 none, .classLink RX8 9 RX5, .instantiable RX5 9, .initialized RX5, .code yX5_init cX5_init 1 none, .methodLink RX5 3 objectInit]
def zw_zd_X11_method_w1 : List Cond := [.arrayClass .int, .fieldLink RX5 9 "TemplateForge$Heat" "first" "[I", .arrayClass .boolean, .fieldLink RX5 15 "TemplateForge$Heat" "same" "[Z", .fieldLink RX5 19 "TemplateForge$Heat" "varying" "[Z", .instanceMethod yX5_init, .fieldLink RX8 12 "TemplateForge$Program" "heat" "LTemplateForge$Heat;", .fieldLink RX8 18 "TemplateForge$Program" "ops" "[I", .fieldLink RX8 22 "TemplateForge$Program" "xs" "[I", .fieldLink RX8 25 "TemplateForge$Program" "depths" "[I", .fieldLink RX8 28 "TemplateForge$Program" "deepest" "I", .fieldLink RX8 32 "TemplateForge$Program" "number" "I", .fieldLink RX8 35 "TemplateForge$Program" "args" "I", .fieldLink RX8 38 "TemplateForge$Program" "locals" "I", .methodLink RX0 21 yX8_init, .instanceMethod yX8_init]
def zw_zd_X11_method_w2 : List Cond := [.methodLink RX11 44 yX0_tell, .instanceMethod yX0_tell, .selects RX0 yX0_tell yX0_tell, .initialized RX0]
def zw_zd_X11_method : List Cond := .code yX11_method cX11_method 3 (some .int) :: ((zw_zd_X11_method_w0 ++ (zw_zd_X11_method_w1 ++ (zw_zd_X11_method_w2))) ++ wsX110 ++ wsX00 ++ wsX80 ++ wsX50)
set_option maxRecDepth 100000 in
theorem zg_zd_X11_method_zd_X0_tell_44_a : GoodIn zw_zd_X11_method [.methodLink RX11 44 yX0_tell, .instanceMethod yX0_tell, .selects RX0 yX0_tell yX0_tell, .initialized RX0] := goodIn_r _ [33, 34, 35, 36] rfl (by decide +kernel)
set_option maxRecDepth 100000 in
theorem zg_zd_X11_method_zd_X0_tell_44_c : GoodIn zw_zd_X11_method [.code yX0_tell cX0_tell 3 (some .int)] := goodIn_r _ [2] rfl (by decide +kernel)
set_option maxRecDepth 100000 in
theorem zg_zd_X11_method_zd_X0_tell_44_0 : GoodIn zw_zd_X11_method zw_zd_X0_tell_w0 := goodIn_r _ [3, 4, 5, 6, 7, 8, 9, 10, 11, 12, 13, 14, 15, 16, 17, 18] rfl (by decide +kernel)
set_option maxRecDepth 100000 in
theorem zg_zd_X11_method_zd_X0_tell_44_1 : GoodIn zw_zd_X11_method zw_zd_X0_tell_w1 := goodIn_r _ [19, 20, 21, 22, 23, 24, 25, 26, 27, 28, 29, 30, 31, 32] rfl (by decide +kernel)
theorem zg_zd_X11_method_zd_X0_tell_44 : GoodIn zw_zd_X11_method (wsV RX11 44 RX0 yX0_tell zw_zd_X0_tell) := goodIn_app zg_zd_X11_method_zd_X0_tell_44_a (goodIn_ca (a := (((zw_zd_X0_tell_w0 ++ (zw_zd_X0_tell_w1)) ++ wsX00) ++ wsX80)) (goodIn_ca (a := ((zw_zd_X0_tell_w0 ++ (zw_zd_X0_tell_w1)) ++ wsX00)) (goodIn_ca (a := (zw_zd_X0_tell_w0 ++ (zw_zd_X0_tell_w1))) (show GoodIn zw_zd_X11_method (.code yX0_tell cX0_tell 3 (some .int) :: (zw_zd_X0_tell_w0 ++ (zw_zd_X0_tell_w1))) from goodIn_app zg_zd_X11_method_zd_X0_tell_44_c (goodIn_app zg_zd_X11_method_zd_X0_tell_44_0 (zg_zd_X11_method_zd_X0_tell_44_1))) (fun w h => ⟨(fun _ h => List.mem_cons_of_mem _ (List.mem_append_left _ (List.mem_append_left _ (List.mem_append_right _ h)))) w h, good_of_word (List.all_eq_true.mp zgw_X0 w h)⟩)) (fun w h => ⟨(fun _ h => List.mem_cons_of_mem _ (List.mem_append_left _ (List.mem_append_right _ h))) w h, good_of_word (List.all_eq_true.mp zgw_X8 w h)⟩)) (fun w h => ⟨(fun _ h => List.mem_cons_of_mem _ (List.mem_append_right _ h)) w h, good_of_word (List.all_eq_true.mp zgw_X5 w h)⟩))
set_option maxHeartbeats 16000000 in
set_option maxRecDepth 100000 in
theorem zd_X11_method (l : Launch) (D : va_G) (cI cZ cP cF : Nat) (q : Nat → Nat → Nat) (S : CST) (a1 : Int32) (a2 : Int32) (sz : Nat) (Post : CST → Int32 → Prop) (h : wp_X11_method S a1 a2 Post) (hcap : cCap S) : MetV l yX11_method zw_zd_X11_method ({ frames := 4, cells := rmc S, slots := rms S, locals := 77 }) (va_Pc [.ref (q 0 0), .int a1, .int a2] (fun U => U.heap.size = sz ∧ va_P D vwCl (cW cI cZ cP cF q S) U.heap ∧ zF D cI cZ cP cF U ∧ va_D (fun _ => True) (cW cI cZ cP cF q S))) (xQi (fun S' r => Post S' r) (fun (q' : Nat → Nat → Nat) (S' : CST) k n t => va_P D vwCl (cW cI cZ cP cF q' S') t.heap ∧ va_D (va_A (cW cI cZ cP cF q S) sz) (cW cI cZ cP cF q' S') ∧ cA q S q' S' k n) (va_A (cW cI cZ cP cF q S) sz)) (va_A (cW cI cZ cP cF q S) sz) := by
  unfold wp_X11_method at h
  refine MetV.ofW (cc := cX11_method) (maxL := 3) (ret := (some .int)) (by decide) rfl ?_
  intro p e s m args below meth c s₁ B hml hv
  obtain ⟨rfl, hsz, hP, hE, hD0⟩ := hv
  have hx := B.exec
  have hb := B.bytes
  have hr := B.returns
  have hts := atoms_spec (ws := zw_zd_X11_method) B.pre
  have hown : s.vm.findClass RX11 = some m.cls := findClass_of_methodNamed B.named
  have hlocks := B.notSynchronized
  have hK := hE.k
  subst hsz
  have hD := hD0.self (sz := s.heap.size)
  generalize hAe : va_A (cW cI cZ cP cF q S) s.heap.size = A at hD ⊢
  have hA : ∀ q : Nat, s.heap.size ≤ q → A q := fun q h => by rw [← hAe]; exact Or.inr h
  have hl := lv_entry ([.ref (q 0 0), .int a1, .int a2]) (n := 3) (Nat.le_of_ble_eq_true rfl)
  rw [lg_entry_eq]
  generalize (lg_sl ([.ref (q 0 0), .int a1, .int a2]) ++ List.replicate (3 - (lg_sl ([.ref (q 0 0), .int a1, .int a2])).length) Slot.unset).toArray = ls at hl ⊢
  have hl : lv_has ls 3 [(0, .ref (q 0 0)), (1, .int a1), (2, .int a2)] := hl
  have key : ∀ (H : Heap) (locs : List Loc) (cells slots : Nat), va_P D vwCl (cW cI cZ cP cF q S) H → va_S A s.heap H locs → cA q S q S cells slots → W p l e (headSpec zw_zd_X11_method ({ frames := 4, cells := rmc S, slots := rms S, locals := 77 })).room s m ([.ref (q 0 0), .int a1, .int a2] : List Value).toArray below meth c H locs cells slots (MQV below (xQi (fun S' r => Post S' r) (fun (q' : Nat → Nat → Nat) (S' : CST) k n t => va_P D vwCl (cW cI cZ cP cF q' S') t.heap ∧ va_D A (cW cI cZ cP cF q' S') ∧ cA q S q' S' k n) A) ([.ref (q 0 0), .int a1, .int a2] : List Value).toArray s A) (F0 m 0 ls []) := by
    intro H locs cells slots hP hS hN
    refine lv_iload_n hx hb dX11_method_0 rfl (lv_at hl 1 rfl) ?_
    refine lv_if_lt (tgt := 20) hx hb dX11_method_1 (by decide) (fun c_1 => ?_) (fun c_1 => ?_)
    · have h := h.1 c_1
      refine lv_bipush (v := (-2)) hx hb dX11_method_20 (by decide) ?_
      exact zV_i (v := (-2)) hx hb hr (fun t ht hW => ⟨⟨_, q, S, rfl, h, by rw [ht]; exact hP, hD, hN⟩, hS.F ht⟩) hS.2.2 dX11_method_22 hlocks
    · have h := h.2 c_1
      refine lv_iload_n hx hb dX11_method_4 rfl (lv_at hl 1 rfl) ?_
      refine lv_iconst (v := 3) hx hb dX11_method_5 (by decide) ?_
      refine lv_icmp_gt (tgt := 20) hx hb dX11_method_6 (by decide) (fun c_2 => ?_) (fun c_2 => ?_)
      · have h := h.1 c_2
        refine lv_bipush (v := (-2)) hx hb dX11_method_20 (by decide) ?_
        exact zV_i (v := (-2)) hx hb hr (fun t ht hW => ⟨⟨_, q, S, rfl, h, by rw [ht]; exact hP, hD, hN⟩, hS.F ht⟩) hS.2.2 dX11_method_22 hlocks
      · have h := h.2 c_2
        refine lv_iload_n hx hb dX11_method_9 rfl (lv_at hl 2 rfl) ?_
        refine lv_iload_n hx hb dX11_method_10 rfl (lv_at hl 1 rfl) ?_
        refine lv_icmp_lt (tgt := 20) hx hb dX11_method_11 (by decide) (fun c_3 => ?_) (fun c_3 => ?_)
        · have h := h.1 c_3
          refine lv_bipush (v := (-2)) hx hb dX11_method_20 (by decide) ?_
          exact zV_i (v := (-2)) hx hb hr (fun t ht hW => ⟨⟨_, q, S, rfl, h, by rw [ht]; exact hP, hD, hN⟩, hS.F ht⟩) hS.2.2 dX11_method_22 hlocks
        · have h := h.2 c_3
          refine lv_iload_n hx hb dX11_method_14 rfl (lv_at hl 2 rfl) ?_
          refine lv_bipush (v := 6) hx hb dX11_method_15 (by decide) ?_
          refine lv_icmp_le (tgt := 23) hx hb dX11_method_17 (by decide) (fun c_4 => ?_) (fun c_4 => ?_)
          · have h := h.1 c_4
            refine lv_aload_n hx hb dX11_method_23 rfl (lv_at hl 0 rfl) ?_
            obtain ⟨p_5, hp_5⟩ := cget_0 cI cZ cP cF q S
            have hi_5 : cin S 0 0 := Or.inl ⟨by decide, rfl⟩
            refine va_get (D := D) (ci := 11) (v := .ref (q 1 0)) (C := RX11) (T := TX11) (N := 4) hx hb hts (fun _ h => List.mem_cons_of_mem _ (List.mem_append_left _ (List.mem_append_left _ (List.mem_append_left _ (List.mem_append_right _ h))))) hown hK hP p_5 hp_5 rfl 0 (by decide) (hts (.fieldLink RX11 15 "TemplateForge" "book" "LTemplateForge$Book;") (List.mem_of_getElem? (i := 1) rfl)) (fun _ h9 => h9) rfl dX11_method_24 ?_
            refine lv_iload_n hx hb dX11_method_27 rfl (lv_at hl 1 rfl) ?_
            refine lv_iload_n hx hb dX11_method_28 rfl (lv_at hl 2 rfl) ?_
            obtain ⟨p_6, hp_6⟩ := cget_1 cI cZ cP cF q S
            have hi_6 : cin S 1 0 := Or.inl ⟨by decide, rfl⟩
            have hFc := zm_free hD hS hA
            refine xc_i (z_runV (As := [.int a1, .int a2]) (rest := []) ⟨hx, hb, hml, hown, hts⟩ (zd_X0_tell l D cI cZ cP cF q S a1 a2 H.size _ h (cA_cap hN)) (cwV 2 hts zg_zd_X11_method_zd_X0_tell_44 rfl rfl rfl (by decide +kernel) ⟨Nat.le_of_ble_eq_true rfl, Nat.le_of_ble_eq_true rfl⟩) ⟨zCW, va_recv hK hP (ci := 0) (q0 := p_6) rfl hp_6, fun U hU hW => ⟨rfl, by rw [hU], by rw [hU]; exact hP, hE.warm hW, hD.weaken (fun _ _ _ _ => trivial)⟩⟩ rfl rfl hl.1 rfl (lv_room (Nat.le_of_ble_eq_true rfl)) dX11_method_29 (cA_room hN)) hS (fun q _ h => hFc q h) hFc (fun r8 q8 S8 k n t H locs ht hvm h hB hz1 hk1 hS => ?_)
            obtain ⟨hP, hD1, hN1⟩ := hB
            rw [ht] at hP
            have hD := hD1.weaken (fun k q _ hq => hFc q.1 hq)
            have e_7 : q8 0 0 = q 0 0 := hN1.1 0 0 (Or.inl ⟨by decide, rfl⟩)
            have hN := cA_step hN hN1.1 hN1.2
            have hl : lv_has ls 3 [(0, .ref (q8 0 0)), (1, .int a1), (2, .int a2)] := by simp only [e_7]; exact hl
            exact zV_i (v := r8) hx hb hr (fun t ht hW => ⟨⟨_, q8, S8, rfl, h, by rw [ht]; exact hP, hD, hN⟩, hS.F ht⟩) hS.2.2 dX11_method_32 hlocks
          · have h := h.2 c_4
            refine lv_bipush (v := (-2)) hx hb dX11_method_20 (by decide) ?_
            exact zV_i (v := (-2)) hx hb hr (fun t ht hW => ⟨⟨_, q, S, rfl, h, by rw [ht]; exact hP, hD, hN⟩, hS.F ht⟩) hS.2.2 dX11_method_22 hlocks
  exact key _ _ 0 0 hP va_S.rf (cA_rf hcap)

def wp_X11_look (S : CST) (a1 : Int32) (Post : CST → Int32 → Prop) : Prop :=
  wp_X0_at S a1 (fun r3 => ((r3 < 0) → (Post S (-2))) ∧ ((¬ (r3 < 0)) → (cin S 24 ((r3 : Int32).toNatClampNeg) ∧ (wp_X8_isRight S ((r3 : Int32).toNatClampNeg) (fun r6 => (((r6 : Int32) = 0) → (cin S 24 ((r3 : Int32).toNatClampNeg) ∧ (wp_X6_goOver S ((r3 : Int32).toNatClampNeg) (fun S12 r12 => Post S12 r12)))) ∧ ((¬ ((r6 : Int32) = 0)) → (Post S (-3))))))))
def zw_zd_X11_look_w0 : List Cond := [.fieldLink RX11 15 "TemplateForge" "book" "LTemplateForge$Book;", .code yX0_at cX0_at 2 (some (.object "TemplateForge$Program")), .fieldLink RX0 17 "TemplateForge$Book" "told" "I", .fieldLink RX0 11 "TemplateForge$Book" "programs" "[LTemplateForge$Program;", .methodLink RX11 48 yX0_at, .instanceMethod yX0_at, .selects RX0 yX0_at yX0_at, .initialized RX0, .code yX8_isRight cX8_isRight 1 (some .boolean), .fieldLink RX8 28 "TemplateForge$Program" "deepest" "I", .methodLink RX11 52 yX8_isRight, .instanceMethod yX8_isRight, .selects RX8 yX8_isRight yX8_isRight, .initialized RX8, .fieldLink RX11 31 "TemplateForge" "looker" "LTemplateForge$Looker;", .code yX6_goOver cX6_goOver 4 (some .int)]
def zw_zd_X11_look_w1 : List Cond := [.fieldLink RX6 32 "TemplateForge$Looker" "found" "I", .code yX6_comes cX6_comes 4 (some .boolean), .code yX8_isDead cX8_isDead 2 (some .boolean), .code yX8_has cX8_has 2 (some .boolean), .fieldLink RX8 41 "TemplateForge$Program" "length" "I", .methodLink RX8 44 yX8_has, .instanceMethod yX8_has, .selects RX8 yX8_has yX8_has, .fieldLink RX8 25 "TemplateForge$Program" "depths" "[I", .methodLink RX6 96 yX8_isDead, .instanceMethod yX8_isDead, .selects RX8 yX8_isDead yX8_isDead, .code yX8_depthAt cX8_depthAt 2 (some .int), .methodLink RX6 78 yX8_depthAt, .instanceMethod yX8_depthAt, .selects RX8 yX8_depthAt yX8_depthAt]
def zw_zd_X11_look_w2 : List Cond := [.code yX8_comeTo cX8_comeTo 3 none, .methodLink RX6 99 yX8_comeTo, .instanceMethod yX8_comeTo, .selects RX8 yX8_comeTo yX8_comeTo, .fieldLink RX6 9 "TemplateForge$Looker" "waiting" "[Z", .methodLink RX6 35 yX6_comes, .instanceMethod yX6_comes, .selects RX6 yX6_comes yX6_comes, .initialized RX6, .code yX6_greatestDepth cX6_greatestDepth 4 (some .int), .fieldLink RX6 28 "TemplateForge$Program" "length" "I", .methodLink RX6 103 Lib.Math.max.name, .static Lib.Math.max.name, .initialized "java/lang/Math", .code Lib.Math.max.name Lib.Math.max.code 2 (some .int), .methodLink RX6 47 yX6_greatestDepth]
def zw_zd_X11_look_w3 : List Cond := [.instanceMethod yX6_greatestDepth, .selects RX6 yX6_greatestDepth yX6_greatestDepth, .fieldLink RX6 51 "TemplateForge$Program" "deepest" "I", .code yX6_plainCode cX6_plainCode 3 (some (.object "TemplateForge$Code")), .fieldLink RX6 19 "TemplateForge$Looker" "draft" "LTemplateForge$Draft;", .code yX3_clear cX3_clear 1 none, .fieldLink RX3 18 "TemplateForge$Draft" "parts" "I", .fieldLink RX3 15 "TemplateForge$Draft" "starts" "[I", .code yJ7_fill_53178 cJ7_fill_53178 4 none, .methodLink RX3 22 yJ7_fill_53178, .static yJ7_fill_53178, .initialized RJ7, .methodLink RX6 108 yX3_clear, .instanceMethod yX3_clear, .selects RX3 yX3_clear yX3_clear, .initialized RX3]
def zw_zd_X11_look_w4 : List Cond := [.code yX3_finish cX3_finish 5 (some (.object "TemplateForge$Code")), .fieldLink RX3 9 "TemplateForge$Draft" "cells" "[I", .methodLink RX3 48 Lib.Math.max.name, .code yJ7_copyOf_59c91 cJ7_copyOf_59c91 3 (some (.array .int)), .methodLink RJ7 316 ⟨"[I", "clone", "()Ljava/lang/Object;"⟩, .sameMethod "[I" "java/lang/Object" "clone" "()Ljava/lang/Object;", .native ⟨"java/lang/Object", "clone", "()Ljava/lang/Object;"⟩, .instanceMethod ⟨"java/lang/Object", "clone", "()Ljava/lang/Object;"⟩, .selects "[I" ⟨"[I", "clone", "()Ljava/lang/Object;"⟩ ⟨"java/lang/Object", "clone", "()Ljava/lang/Object;"⟩, .classLink RJ7 317 "[I", .arrayClass .int, .methodLink RJ7 304 Lib.Math.min.name, .static Lib.Math.min.name, .code Lib.Math.min.name Lib.Math.min.code 2 (some .int), .methodLink RJ7 150 arraycopyName, .native arraycopyName]
def zw_zd_X11_look_w5 : List Cond := [.static arraycopyName, .initialized "java/lang/System", .methodLink RX3 54 yJ7_copyOf_59c91, .static yJ7_copyOf_59c91, .classLink RX3 58 RX1, .instantiable RX1 4, .initialized RX1, .code yX1_init cX1_init 5 none, .methodLink RX1 3 objectInit, .instanceMethod objectInit, .code objectInit ⟨#[0xb1]⟩ 1 none, .fieldLink RX1 9 "TemplateForge$Code" "making" "I", .fieldLink RX1 15 "TemplateForge$Code" "heads" "I", .fieldLink RX1 18 "TemplateForge$Code" "cells" "[I", .fieldLink RX1 22 "TemplateForge$Code" "starts" "[I", .methodLink RX3 60 yX1_init]
def zw_zd_X11_look_w6 : List Cond := [.instanceMethod yX1_init, .methodLink RX6 121 yX3_finish, .instanceMethod yX3_finish, .selects RX3 yX3_finish yX3_finish, .code yX3_begin cX3_begin 2 none, .methodLink RX6 113 yX3_begin, .instanceMethod yX3_begin, .selects RX3 yX3_begin yX3_begin, .code yX3_addTemplate cX3_addTemplate 6 none, .code yX8_opAt cX8_opAt 2 (some .int), .fieldLink RX8 18 "TemplateForge$Program" "ops" "[I", .methodLink RX3 28 yX8_opAt, .instanceMethod yX8_opAt, .selects RX8 yX8_opAt yX8_opAt, .code yX8_xAt cX8_xAt 2 (some .int), .fieldLink RX8 22 "TemplateForge$Program" "xs" "[I"]
def zw_zd_X11_look_w7 : List Cond := [.methodLink RX3 34 yX8_xAt, .instanceMethod yX8_xAt, .selects RX8 yX8_xAt yX8_xAt, .methodLink RX3 37 yX8_depthAt, .code yX3_addReckoning cX3_addReckoning 5 none, .code yX3_add cX3_add 7 none, .methodLink RX3 40 yX3_add, .instanceMethod yX3_add, .selects RX3 yX3_add yX3_add, .methodLink RX3 44 yX3_addReckoning, .instanceMethod yX3_addReckoning, .selects RX3 yX3_addReckoning yX3_addReckoning, .methodLink RX6 117 yX3_addTemplate, .instanceMethod yX3_addTemplate, .selects RX3 yX3_addTemplate yX3_addTemplate, .methodLink RX6 54 yX6_plainCode]
def zw_zd_X11_look_w8 : List Cond := [.instanceMethod yX6_plainCode, .selects RX6 yX6_plainCode yX6_plainCode, .fieldLink RX6 58 "TemplateForge$Program" "plain" "LTemplateForge$Code;", .code yX6_leastWaiting cX6_leastWaiting 2 (some .int), .methodLink RX6 39 yX6_leastWaiting, .instanceMethod yX6_leastWaiting, .selects RX6 yX6_leastWaiting yX6_leastWaiting, .code yX6_faultAt cX6_faultAt 7 (some .int), .methodLink RX6 62 yX8_opAt, .methodLink RX6 66 yX8_xAt, .fieldLink RX6 15 "TemplateForge$Looker" "book" "LTemplateForge$Book;", .code yX0_taken cX0_taken 4 (some .int), .methodLink RX0 24 yX0_at, .fieldLink RX0 32 "TemplateForge$Program" "args" "I", .methodLink RX6 69 yX0_taken, .instanceMethod yX0_taken]
def zw_zd_X11_look_w9 : List Cond := [.selects RX0 yX0_taken yX0_taken, .code yX6_isRightX cX6_isRightX 4 (some .boolean), .fieldLink RX6 89 "TemplateForge$Program" "locals" "I", .methodLink RX6 92 yX0_at, .methodLink RX6 75 yX6_isRightX, .instanceMethod yX6_isRightX, .selects RX6 yX6_isRightX yX6_isRightX, .methodLink RX6 85 yX8_has, .methodLink RX6 43 yX6_faultAt, .instanceMethod yX6_faultAt, .selects RX6 yX6_faultAt yX6_faultAt, .code yX8_forgetDepths cX8_forgetDepths 1 none, .methodLink RX8 55 yJ7_fill_53178, .methodLink RX6 23 yX8_forgetDepths, .instanceMethod yX8_forgetDepths, .selects RX8 yX8_forgetDepths yX8_forgetDepths]
def zw_zd_X11_look_w10 : List Cond := [.methodLink RX11 61 yX6_goOver, .instanceMethod yX6_goOver, .selects RX6 yX6_goOver yX6_goOver]
def zw_zd_X11_look : List Cond := .code yX11_look cX11_look 3 (some .int) :: ((zw_zd_X11_look_w0 ++ (zw_zd_X11_look_w1 ++ (zw_zd_X11_look_w2 ++ (zw_zd_X11_look_w3 ++ (zw_zd_X11_look_w4 ++ (zw_zd_X11_look_w5 ++ (zw_zd_X11_look_w6 ++ (zw_zd_X11_look_w7 ++ (zw_zd_X11_look_w8 ++ (zw_zd_X11_look_w9 ++ (zw_zd_X11_look_w10))))))))))) ++ wsX110 ++ wsX00 ++ wsX80 ++ wsX60 ++ wsX30 ++ wsX10)
set_option maxRecDepth 100000 in
theorem zg_zd_X11_look_zd_X0_at_48_a : GoodIn zw_zd_X11_look [.methodLink RX11 48 yX0_at, .instanceMethod yX0_at, .selects RX0 yX0_at yX0_at, .initialized RX0] := goodIn_r _ [5, 6, 7, 8] rfl (by decide +kernel)
set_option maxRecDepth 100000 in
theorem zg_zd_X11_look_zd_X0_at_48_c : GoodIn zw_zd_X11_look [.code yX0_at cX0_at 2 (some (.object "TemplateForge$Program"))] := goodIn_r _ [2] rfl (by decide +kernel)
set_option maxRecDepth 100000 in
theorem zg_zd_X11_look_zd_X0_at_48_0 : GoodIn zw_zd_X11_look zw_zd_X0_at_w0 := goodIn_r _ [3, 4] rfl (by decide +kernel)
theorem zg_zd_X11_look_zd_X0_at_48 : GoodIn zw_zd_X11_look (wsV RX11 48 RX0 yX0_at zw_zd_X0_at) := goodIn_app zg_zd_X11_look_zd_X0_at_48_a (goodIn_ca (a := (zw_zd_X0_at_w0)) (show GoodIn zw_zd_X11_look (.code yX0_at cX0_at 2 (some (.object "TemplateForge$Program")) :: (zw_zd_X0_at_w0)) from goodIn_app zg_zd_X11_look_zd_X0_at_48_c (zg_zd_X11_look_zd_X0_at_48_0)) (fun w h => ⟨(fun _ h => List.mem_cons_of_mem _ (List.mem_append_left _ (List.mem_append_left _ (List.mem_append_left _ (List.mem_append_left _ (List.mem_append_right _ h)))))) w h, good_of_word (List.all_eq_true.mp zgw_X0 w h)⟩))
set_option maxRecDepth 100000 in
theorem zg_zd_X11_look_zd_X8_isRight_52_a : GoodIn zw_zd_X11_look [.methodLink RX11 52 yX8_isRight, .instanceMethod yX8_isRight, .selects RX8 yX8_isRight yX8_isRight, .initialized RX8] := goodIn_r _ [11, 12, 13, 14] rfl (by decide +kernel)
set_option maxRecDepth 100000 in
theorem zg_zd_X11_look_zd_X8_isRight_52_c : GoodIn zw_zd_X11_look [.code yX8_isRight cX8_isRight 1 (some .boolean)] := goodIn_r _ [9] rfl (by decide +kernel)
set_option maxRecDepth 100000 in
theorem zg_zd_X11_look_zd_X8_isRight_52_0 : GoodIn zw_zd_X11_look zw_zd_X8_isRight_w0 := goodIn_r _ [10] rfl (by decide +kernel)
theorem zg_zd_X11_look_zd_X8_isRight_52 : GoodIn zw_zd_X11_look (wsV RX11 52 RX8 yX8_isRight zw_zd_X8_isRight) := goodIn_app zg_zd_X11_look_zd_X8_isRight_52_a (goodIn_ca (a := (zw_zd_X8_isRight_w0)) (show GoodIn zw_zd_X11_look (.code yX8_isRight cX8_isRight 1 (some .boolean) :: (zw_zd_X8_isRight_w0)) from goodIn_app zg_zd_X11_look_zd_X8_isRight_52_c (zg_zd_X11_look_zd_X8_isRight_52_0)) (fun w h => ⟨(fun _ h => List.mem_cons_of_mem _ (List.mem_append_left _ (List.mem_append_left _ (List.mem_append_left _ (List.mem_append_right _ h))))) w h, good_of_word (List.all_eq_true.mp zgw_X8 w h)⟩))
set_option maxRecDepth 100000 in
theorem zg_zd_X11_look_zd_X6_goOver_61_a : GoodIn zw_zd_X11_look [.methodLink RX11 61 yX6_goOver, .instanceMethod yX6_goOver, .selects RX6 yX6_goOver yX6_goOver, .initialized RX6] := goodIn_r _ [161, 162, 163, 41] rfl (by decide +kernel)
set_option maxRecDepth 100000 in
theorem zg_zd_X11_look_zd_X6_goOver_61_c : GoodIn zw_zd_X11_look [.code yX6_goOver cX6_goOver 4 (some .int)] := goodIn_r _ [16] rfl (by decide +kernel)
set_option maxRecDepth 100000 in
theorem zg_zd_X11_look_zd_X6_goOver_61_0 : GoodIn zw_zd_X11_look zw_zd_X6_goOver_w0 := goodIn_r _ [17, 18, 19, 20, 21, 22, 23, 24, 14, 25, 26, 27, 28, 29, 30, 31] rfl (by decide +kernel)
set_option maxRecDepth 100000 in
theorem zg_zd_X11_look_zd_X6_goOver_61_1 : GoodIn zw_zd_X11_look zw_zd_X6_goOver_w1 := goodIn_r _ [32, 33, 34, 35, 36, 37, 38, 39, 40, 41, 42, 43, 44, 45, 46, 47] rfl (by decide +kernel)
set_option maxRecDepth 100000 in
theorem zg_zd_X11_look_zd_X6_goOver_61_2 : GoodIn zw_zd_X11_look zw_zd_X6_goOver_w2 := goodIn_r _ [48, 49, 50, 51, 52, 53, 54, 55, 56, 57, 58, 59, 60, 61, 62, 63] rfl (by decide +kernel)
set_option maxRecDepth 100000 in
theorem zg_zd_X11_look_zd_X6_goOver_61_3 : GoodIn zw_zd_X11_look zw_zd_X6_goOver_w3 := goodIn_r _ [64, 65, 66, 67, 68, 69, 70, 71, 72, 73, 74, 75, 76, 77, 78, 79] rfl (by decide +kernel)
set_option maxRecDepth 100000 in
theorem zg_zd_X11_look_zd_X6_goOver_61_4 : GoodIn zw_zd_X11_look zw_zd_X6_goOver_w4 := goodIn_r _ [80, 81, 82, 83, 84, 85, 86, 87, 88, 89, 90, 91, 92, 93, 94, 95] rfl (by decide +kernel)
set_option maxRecDepth 100000 in
theorem zg_zd_X11_look_zd_X6_goOver_61_5 : GoodIn zw_zd_X11_look zw_zd_X6_goOver_w5 := goodIn_r _ [96, 97, 98, 99, 100, 101, 102, 103, 104, 105, 106, 107, 108, 109, 110, 111] rfl (by decide +kernel)
set_option maxRecDepth 100000 in
theorem zg_zd_X11_look_zd_X6_goOver_61_6 : GoodIn zw_zd_X11_look zw_zd_X6_goOver_w6 := goodIn_r _ [112, 113, 114, 115, 116, 117, 118, 119, 120, 121, 122, 123, 124, 125, 126, 127] rfl (by decide +kernel)
set_option maxRecDepth 100000 in
theorem zg_zd_X11_look_zd_X6_goOver_61_7 : GoodIn zw_zd_X11_look zw_zd_X6_goOver_w7 := goodIn_r _ [128, 129, 130, 131, 132, 133, 134, 135, 136, 137, 138, 139, 140, 2, 3, 4] rfl (by decide +kernel)
set_option maxRecDepth 100000 in
theorem zg_zd_X11_look_zd_X6_goOver_61_8 : GoodIn zw_zd_X11_look zw_zd_X6_goOver_w8 := goodIn_r _ [141, 6, 7, 8, 142, 143, 144, 145, 146, 147, 148, 149, 150, 151, 152, 153] rfl (by decide +kernel)
set_option maxRecDepth 100000 in
theorem zg_zd_X11_look_zd_X6_goOver_61_9 : GoodIn zw_zd_X11_look zw_zd_X6_goOver_w9 := goodIn_r _ [154, 155, 156, 157, 158, 159, 160] rfl (by decide +kernel)
theorem zg_zd_X11_look_zd_X6_goOver_61 : GoodIn zw_zd_X11_look (wsV RX11 61 RX6 yX6_goOver zw_zd_X6_goOver) := goodIn_app zg_zd_X11_look_zd_X6_goOver_61_a (goodIn_ca (a := (((((zw_zd_X6_goOver_w0 ++ (zw_zd_X6_goOver_w1 ++ (zw_zd_X6_goOver_w2 ++ (zw_zd_X6_goOver_w3 ++ (zw_zd_X6_goOver_w4 ++ (zw_zd_X6_goOver_w5 ++ (zw_zd_X6_goOver_w6 ++ (zw_zd_X6_goOver_w7 ++ (zw_zd_X6_goOver_w8 ++ (zw_zd_X6_goOver_w9)))))))))) ++ wsX60) ++ wsX80) ++ wsX30) ++ wsX10)) (goodIn_ca (a := ((((zw_zd_X6_goOver_w0 ++ (zw_zd_X6_goOver_w1 ++ (zw_zd_X6_goOver_w2 ++ (zw_zd_X6_goOver_w3 ++ (zw_zd_X6_goOver_w4 ++ (zw_zd_X6_goOver_w5 ++ (zw_zd_X6_goOver_w6 ++ (zw_zd_X6_goOver_w7 ++ (zw_zd_X6_goOver_w8 ++ (zw_zd_X6_goOver_w9)))))))))) ++ wsX60) ++ wsX80) ++ wsX30)) (goodIn_ca (a := (((zw_zd_X6_goOver_w0 ++ (zw_zd_X6_goOver_w1 ++ (zw_zd_X6_goOver_w2 ++ (zw_zd_X6_goOver_w3 ++ (zw_zd_X6_goOver_w4 ++ (zw_zd_X6_goOver_w5 ++ (zw_zd_X6_goOver_w6 ++ (zw_zd_X6_goOver_w7 ++ (zw_zd_X6_goOver_w8 ++ (zw_zd_X6_goOver_w9)))))))))) ++ wsX60) ++ wsX80)) (goodIn_ca (a := ((zw_zd_X6_goOver_w0 ++ (zw_zd_X6_goOver_w1 ++ (zw_zd_X6_goOver_w2 ++ (zw_zd_X6_goOver_w3 ++ (zw_zd_X6_goOver_w4 ++ (zw_zd_X6_goOver_w5 ++ (zw_zd_X6_goOver_w6 ++ (zw_zd_X6_goOver_w7 ++ (zw_zd_X6_goOver_w8 ++ (zw_zd_X6_goOver_w9)))))))))) ++ wsX60)) (goodIn_ca (a := (zw_zd_X6_goOver_w0 ++ (zw_zd_X6_goOver_w1 ++ (zw_zd_X6_goOver_w2 ++ (zw_zd_X6_goOver_w3 ++ (zw_zd_X6_goOver_w4 ++ (zw_zd_X6_goOver_w5 ++ (zw_zd_X6_goOver_w6 ++ (zw_zd_X6_goOver_w7 ++ (zw_zd_X6_goOver_w8 ++ (zw_zd_X6_goOver_w9))))))))))) (show GoodIn zw_zd_X11_look (.code yX6_goOver cX6_goOver 4 (some .int) :: (zw_zd_X6_goOver_w0 ++ (zw_zd_X6_goOver_w1 ++ (zw_zd_X6_goOver_w2 ++ (zw_zd_X6_goOver_w3 ++ (zw_zd_X6_goOver_w4 ++ (zw_zd_X6_goOver_w5 ++ (zw_zd_X6_goOver_w6 ++ (zw_zd_X6_goOver_w7 ++ (zw_zd_X6_goOver_w8 ++ (zw_zd_X6_goOver_w9))))))))))) from goodIn_app zg_zd_X11_look_zd_X6_goOver_61_c (goodIn_app zg_zd_X11_look_zd_X6_goOver_61_0 (goodIn_app zg_zd_X11_look_zd_X6_goOver_61_1 (goodIn_app zg_zd_X11_look_zd_X6_goOver_61_2 (goodIn_app zg_zd_X11_look_zd_X6_goOver_61_3 (goodIn_app zg_zd_X11_look_zd_X6_goOver_61_4 (goodIn_app zg_zd_X11_look_zd_X6_goOver_61_5 (goodIn_app zg_zd_X11_look_zd_X6_goOver_61_6 (goodIn_app zg_zd_X11_look_zd_X6_goOver_61_7 (goodIn_app zg_zd_X11_look_zd_X6_goOver_61_8 (zg_zd_X11_look_zd_X6_goOver_61_9))))))))))) (fun w h => ⟨(fun _ h => List.mem_cons_of_mem _ (List.mem_append_left _ (List.mem_append_left _ (List.mem_append_right _ h)))) w h, good_of_word (List.all_eq_true.mp zgw_X6 w h)⟩)) (fun w h => ⟨(fun _ h => List.mem_cons_of_mem _ (List.mem_append_left _ (List.mem_append_left _ (List.mem_append_left _ (List.mem_append_right _ h))))) w h, good_of_word (List.all_eq_true.mp zgw_X8 w h)⟩)) (fun w h => ⟨(fun _ h => List.mem_cons_of_mem _ (List.mem_append_left _ (List.mem_append_right _ h))) w h, good_of_word (List.all_eq_true.mp zgw_X3 w h)⟩)) (fun w h => ⟨(fun _ h => List.mem_cons_of_mem _ (List.mem_append_right _ h)) w h, good_of_word (List.all_eq_true.mp zgw_X1 w h)⟩)) (fun w h => ⟨(fun _ h => List.mem_cons_of_mem _ (List.mem_append_left _ (List.mem_append_left _ (List.mem_append_left _ (List.mem_append_left _ (List.mem_append_right _ h)))))) w h, good_of_word (List.all_eq_true.mp zgw_X0 w h)⟩))
set_option maxHeartbeats 16000000 in
set_option maxRecDepth 100000 in
theorem zd_X11_look (l : Launch) (D : va_G) (cI cZ cP cF : Nat) (q : Nat → Nat → Nat) (S : CST) (a1 : Int32) (sz : Nat) (Post : CST → Int32 → Prop) (h : wp_X11_look S a1 Post) (hcap : cCap S) : MetV l yX11_look zw_zd_X11_look ({ frames := 5, cells := rmc S, slots := rms S, locals := 151 }) (va_Pc [.ref (q 0 0), .int a1] (fun U => U.heap.size = sz ∧ va_P D vwCl (cW cI cZ cP cF q S) U.heap ∧ zF D cI cZ cP cF U ∧ va_D (fun _ => True) (cW cI cZ cP cF q S) ∧ zT (zNm (cW cI cZ cP cF q S)) U U.heap)) (xQi (fun S' r => Post S' r) (fun (q' : Nat → Nat → Nat) (S' : CST) k n t => va_P D vwCl (cW cI cZ cP cF q' S') t.heap ∧ va_D (va_A (cW cI cZ cP cF q S) sz) (cW cI cZ cP cF q' S') ∧ cA q S q' S' k n) (va_A (cW cI cZ cP cF q S) sz)) (va_A (cW cI cZ cP cF q S) sz) := by
  unfold wp_X11_look at h
  refine MetV.ofW (cc := cX11_look) (maxL := 3) (ret := (some .int)) (by decide) rfl ?_
  intro p e s m args below meth c s₁ B hml hv
  obtain ⟨rfl, hsz, hP, hE, hD0, hT0⟩ := hv
  have hx := B.exec
  have hb := B.bytes
  have hr := B.returns
  have hts := atoms_spec (ws := zw_zd_X11_look) B.pre
  have hown : s.vm.findClass RX11 = some m.cls := findClass_of_methodNamed B.named
  have hlocks := B.notSynchronized
  have hK := hE.k
  subst hsz
  have hD := hD0.self (sz := s.heap.size)
  have hT := zT_self hT0
  generalize hAe : va_A (cW cI cZ cP cF q S) s.heap.size = A at hD hT ⊢
  have hA : ∀ q : Nat, s.heap.size ≤ q → A q := fun q h => by rw [← hAe]; exact Or.inr h
  have hl := lv_entry ([.ref (q 0 0), .int a1]) (n := 3) (Nat.le_of_ble_eq_true rfl)
  rw [lg_entry_eq]
  generalize (lg_sl ([.ref (q 0 0), .int a1]) ++ List.replicate (3 - (lg_sl ([.ref (q 0 0), .int a1])).length) Slot.unset).toArray = ls at hl ⊢
  have hl : lv_has ls 3 [(0, .ref (q 0 0)), (1, .int a1)] := hl
  have key : ∀ (H : Heap) (locs : List Loc) (cells slots : Nat), va_P D vwCl (cW cI cZ cP cF q S) H → va_S A s.heap H locs → cA q S q S cells slots → W p l e (headSpec zw_zd_X11_look ({ frames := 5, cells := rmc S, slots := rms S, locals := 151 })).room s m ([.ref (q 0 0), .int a1] : List Value).toArray below meth c H locs cells slots (MQV below (xQi (fun S' r => Post S' r) (fun (q' : Nat → Nat → Nat) (S' : CST) k n t => va_P D vwCl (cW cI cZ cP cF q' S') t.heap ∧ va_D A (cW cI cZ cP cF q' S') ∧ cA q S q' S' k n) A) ([.ref (q 0 0), .int a1] : List Value).toArray s A) (F0 m 0 ls []) := by
    intro H locs cells slots hP hS hN
    refine lv_aload_n hx hb dX11_look_0 rfl (lv_at hl 0 rfl) ?_
    obtain ⟨p_1, hp_1⟩ := cget_0 cI cZ cP cF q S
    have hi_1 : cin S 0 0 := Or.inl ⟨by decide, rfl⟩
    refine va_get (D := D) (ci := 11) (v := .ref (q 1 0)) (C := RX11) (T := TX11) (N := 4) hx hb hts (fun _ h => List.mem_cons_of_mem _ (List.mem_append_left _ (List.mem_append_left _ (List.mem_append_left _ (List.mem_append_left _ (List.mem_append_left _ (List.mem_append_right _ h))))))) hown hK hP p_1 hp_1 rfl 0 (by decide) (hts (.fieldLink RX11 15 "TemplateForge" "book" "LTemplateForge$Book;") (List.mem_of_getElem? (i := 1) rfl)) (fun _ h9 => h9) rfl dX11_look_1 ?_
    refine lv_iload_n hx hb dX11_look_4 rfl (lv_at hl 1 rfl) ?_
    obtain ⟨p_2, hp_2⟩ := cget_1 cI cZ cP cF q S
    have hi_2 : cin S 1 0 := Or.inl ⟨by decide, rfl⟩
    refine va_csq (va_Run.run (va_runV (As := [.int a1]) (rest := []) ⟨hx, hb, hml, hown, hts⟩ (zd_X0_at l D cI cZ cP cF q S a1  _ h) (cwV 1 hts zg_zd_X11_look_zd_X0_at_48 rfl rfl rfl (by decide +kernel) ⟨Nat.le_of_ble_eq_true rfl, Nat.le_of_ble_eq_true rfl⟩) ⟨zCR, va_recv hK hP (ci := 0) (q0 := p_2) rfl hp_2, fun U hU hW => ⟨rfl, by rw [hU]; exact hP, hE.warm hW⟩⟩ rfl rfl hl.1 rfl (lv_room (Nat.le_of_ble_eq_true rfl)) dX11_look_5 (cA_le hN))) (fun o_3 ho_3 => ?_)
    obtain ⟨r3, rfl, h⟩ := ho_3
    by_cases hn_4 : r3 < 0
    · have h := h.1 hn_4
      rw [show va_rf (cno q 24 r3) = .null from cn_neg hn_4]
      refine lv_astore_nN (lv' := [(2, .null), (0, .ref (q 0 0)), (1, .int a1)]) hx hb dX11_look_8 rfl hl (by decide) rfl (fun ls hl => ?_)
      refine lv_aload_nN hx hb dX11_look_9 rfl (lv_at hl 0 rfl) ?_
      refine lv_ifnonnullN hx hb dX11_look_10 ?_
      refine lv_bipush (v := (-2)) hx hb dX11_look_13 (by decide) ?_
      exact zV_i (v := (-2)) hx hb hr (fun t ht hW => ⟨⟨_, q, S, rfl, h, by rw [ht]; exact hP, hD, hN⟩, hS.F ht⟩) hS.2.2 dX11_look_15 hlocks
    · have h := h.2 hn_4
      rw [show va_rf (cno q 24 r3) = .ref (q 24 (r3 : Int32).toNatClampNeg) from cn_pos hn_4]
      refine lv_astore_n (lv' := [(2, .ref (q 24 ((r3 : Int32).toNatClampNeg))), (0, .ref (q 0 0)), (1, .int a1)]) hx hb dX11_look_8 rfl hl (by decide) rfl (fun ls hl => ?_)
      refine lv_aload_n hx hb dX11_look_9 rfl (lv_at hl 0 rfl) ?_
      refine lv_ifnonnull (tgt := 16) hx hb dX11_look_10 (by decide) ?_
      refine lv_aload_n hx hb dX11_look_16 rfl (lv_at hl 0 rfl) ?_
      have hi_5 := h.1
      have h := h.2
      obtain ⟨p_5, hp_5⟩ := cget_24 cI cZ cP cF q S hi_5
      refine vp_callSi (va_Run.run (va_runV (As := []) (rest := []) ⟨hx, hb, hml, hown, hts⟩ (zd_X8_isRight l D cI cZ cP cF q S ((r3 : Int32).toNatClampNeg)  _ h) (cwV 0 hts zg_zd_X11_look_zd_X8_isRight_52 rfl rfl rfl (by decide +kernel) ⟨Nat.le_of_ble_eq_true rfl, Nat.le_of_ble_eq_true rfl⟩) ⟨zCR, va_recv hK hP (ci := 8) (q0 := p_5) rfl hp_5, fun U hU hW => ⟨rfl, by rw [hU]; exact hP, hE.warm hW⟩⟩ rfl rfl hl.1 rfl (lv_room (Nat.le_of_ble_eq_true rfl)) dX11_look_17 (cA_le hN))) (fun r6 h => ?_)
      refine lv_if_eq (tgt := 26) hx hb dX11_look_20 (by decide) (fun c_7 => ?_) (fun c_7 => ?_)
      · have h := h.1 c_7
        refine lv_aload_n hx hb dX11_look_26 rfl (lv_at hl 1 rfl) ?_
        obtain ⟨p_8, hp_8⟩ := cget_0 cI cZ cP cF q S
        have hi_8 : cin S 0 0 := Or.inl ⟨by decide, rfl⟩
        refine va_get (D := D) (ci := 11) (v := .ref (q 10 0)) (C := RX11) (T := TX11) (N := 4) hx hb hts (fun _ h => List.mem_cons_of_mem _ (List.mem_append_left _ (List.mem_append_left _ (List.mem_append_left _ (List.mem_append_left _ (List.mem_append_left _ (List.mem_append_right _ h))))))) hown hK hP p_8 hp_8 rfl 2 (by decide) (hts (.fieldLink RX11 31 "TemplateForge" "looker" "LTemplateForge$Looker;") (List.mem_of_getElem? (i := 15) rfl)) (fun _ h9 => h9) rfl dX11_look_27 ?_
        refine lv_aload_n hx hb dX11_look_30 rfl (lv_at hl 0 rfl) ?_
        obtain ⟨p_9, hp_9⟩ := cget_10 cI cZ cP cF q S
        have hi_9 : cin S 10 0 := Or.inl ⟨by decide, rfl⟩
        have hc_10 := h.1
        have h := h.2
        have hFc := zm_free hD hS hA
        refine xc_i (z_runV (As := [.ref (q 24 ((r3 : Int32).toNatClampNeg))]) (rest := []) ⟨hx, hb, hml, hown, hts⟩ (zd_X6_goOver l D cI cZ cP cF q S ((r3 : Int32).toNatClampNeg) H.size _ h (cA_cap hN)) (cwV 1 hts zg_zd_X11_look_zd_X6_goOver_61 rfl rfl rfl (by decide +kernel) ⟨Nat.le_of_ble_eq_true rfl, Nat.le_of_ble_eq_true rfl⟩) ⟨zCWs, va_recv hK hP (ci := 6) (q0 := p_9) rfl hp_9, fun U hU hW => ⟨rfl, by rw [hU], by rw [hU]; exact hP, hE.warm hW, hD.weaken (fun _ _ _ _ => trivial), zT_move hT hS (zNm_in hD) hW.alike hU⟩⟩ rfl rfl hl.1 rfl (lv_room (Nat.le_of_ble_eq_true rfl)) dX11_look_31 (cA_room hN)) hS (fun q _ h => hFc q h) hFc (fun r12 q12 S12 k n t H locs ht hvm h hB hz1 hk1 hS => ?_)
        obtain ⟨hP, hD1, hN1⟩ := hB
        rw [ht] at hP
        have hD := hD1.weaken (fun k q _ hq => hFc q.1 hq)
        have e_10 : q12 24 ((r3 : Int32).toNatClampNeg) = q 24 ((r3 : Int32).toNatClampNeg) := hN1.1 24 ((r3 : Int32).toNatClampNeg) hc_10
        have e_11 : q12 0 0 = q 0 0 := hN1.1 0 0 (Or.inl ⟨by decide, rfl⟩)
        have hN := cA_step hN hN1.1 hN1.2
        have hl : lv_has ls 3 [(2, .ref (q12 24 ((r3 : Int32).toNatClampNeg))), (0, .ref (q12 0 0)), (1, .int a1)] := by simp only [e_10, e_11]; exact hl
        exact zV_i (v := r12) hx hb hr (fun t ht hW => ⟨⟨_, q12, S12, rfl, h, by rw [ht]; exact hP, hD, hN⟩, hS.F ht⟩) hS.2.2 dX11_look_34 hlocks
      · have h := h.2 c_7
        refine lv_bipush (v := (-3)) hx hb dX11_look_23 (by decide) ?_
        exact zV_i (v := (-3)) hx hb hr (fun t ht hW => ⟨⟨_, q, S, rfl, h, by rw [ht]; exact hP, hD, hN⟩, hS.F ht⟩) hS.2.2 dX11_look_25 hlocks
  exact key _ _ 0 0 hP va_S.rf (cA_rf hcap)

def wp_X11_run (S : CST) (a1 : Int32) (a2 : Int32) (a3 : Int32) (a4 : Int32) (Post : CST → Int32 → Prop) : Prop :=
  wp_X0_at S a1 (fun r3 => ((r3 < 0) → (Post S (-2))) ∧ ((¬ (r3 < 0)) → (wp_X0_isRight S  (fun r7 => ((¬ ((r7 : Int32) = 0)) → (((((cv S 200 0 0) : Int32) < 80) → (wp_X7_go S a1 a2 a3 a4 (fun S16 r16 => Post S16 r16))) ∧ ((¬ (((cv S 200 0 0) : Int32) < 80)) → (Post S (-4))))) ∧ (((r7 : Int32) = 0) → (Post S (-3)))))))
def zw_zd_X11_run_w0 : List Cond := [.fieldLink RX11 15 "TemplateForge" "book" "LTemplateForge$Book;", .code yX0_at cX0_at 2 (some (.object "TemplateForge$Program")), .fieldLink RX0 17 "TemplateForge$Book" "told" "I", .fieldLink RX0 11 "TemplateForge$Book" "programs" "[LTemplateForge$Program;", .methodLink RX11 48 yX0_at, .instanceMethod yX0_at, .selects RX0 yX0_at yX0_at, .initialized RX0, .code yX0_isRight cX0_isRight 3 (some .boolean), .methodLink RX0 24 yX0_at, .code yX8_isRight cX8_isRight 1 (some .boolean), .fieldLink RX8 28 "TemplateForge$Program" "deepest" "I", .methodLink RX0 28 yX8_isRight, .instanceMethod yX8_isRight, .selects RX8 yX8_isRight yX8_isRight, .initialized RX8]
def zw_zd_X11_run_w1 : List Cond := [.methodLink RX11 87 yX0_isRight, .instanceMethod yX0_isRight, .selects RX0 yX0_isRight yX0_isRight, .fieldLink RX11 40 "TemplateForge" "machine" "LTemplateForge$Machine;", .fieldLink RX11 88 "TemplateForge$Machine" "tally" "LTemplateForge$Tally;", .fieldLink RX11 92 "TemplateForge$Tally" "runs" "I", .code yX7_go cX7_go 6 (some .int), .fieldLink RX7 12 "TemplateForge$Machine" "tally" "LTemplateForge$Tally;", .code yX10_beginRun cX10_beginRun 1 none, .fieldLink RX10 15 "TemplateForge$Tally" "runs" "I", .fieldLink RX10 19 "TemplateForge$Tally" "steps" "I", .fieldLink RX10 22 "TemplateForge$Tally" "calls" "I", .fieldLink RX10 25 "TemplateForge$Tally" "coded" "I", .fieldLink RX10 28 "TemplateForge$Tally" "failed" "I", .fieldLink RX10 31 "TemplateForge$Tally" "returned" "I", .code yX10_noteTrap cX10_noteTrap 5 none]
def zw_zd_X11_run_w2 : List Cond := [.fieldLink RX10 9 "TemplateForge$Tally" "trap" "[I", .methodLink RX10 34 yX10_noteTrap, .instanceMethod yX10_noteTrap, .selects RX10 yX10_noteTrap yX10_noteTrap, .initialized RX10, .methodLink RX7 46 yX10_beginRun, .instanceMethod yX10_beginRun, .selects RX10 yX10_beginRun yX10_beginRun, .fieldLink RX7 49 "TemplateForge$Machine" "open" "I", .fieldLink RX7 53 "TemplateForge$Machine" "ending" "I", .fieldLink RX7 56 "TemplateForge$Machine" "called" "I", .fieldLink RX7 59 "TemplateForge$Machine" "into" "I", .fieldLink RX7 24 "TemplateForge$Machine" "handed" "[I", .constant RX7 62 (4000000), .code yX7_begin cX7_begin 4 none, .fieldLink RX7 97 "TemplateForge$Frame" "place" "I"]
def zw_zd_X11_run_w3 : List Cond := [.fieldLink RX7 100 "TemplateForge$Frame" "into" "I", .code yX4_clear cX4_clear 1 none, .fieldLink RX4 9 "TemplateForge$Frame" "registers" "[I", .code yJ7_fill_53178 cJ7_fill_53178 4 none, .methodLink RX4 15 yJ7_fill_53178, .static yJ7_fill_53178, .initialized RJ7, .methodLink RX7 101 yX4_clear, .instanceMethod yX4_clear, .selects RX4 yX4_clear yX4_clear, .initialized RX4, .fieldLink RX7 104 "TemplateForge$Program" "args" "I", .code yX4_put cX4_put 3 none, .methodLink RX7 107 yX4_put, .instanceMethod yX4_put, .selects RX4 yX4_put yX4_put]
def zw_zd_X11_run_w4 : List Cond := [.fieldLink RX7 28 "TemplateForge$Machine" "book" "LTemplateForge$Book;", .methodLink RX7 72 yX0_at, .code yX7_stepOn cX7_stepOn 1 none, .fieldLink RX7 150 "TemplateForge$Tally" "steps" "I", .methodLink RX7 78 yX7_stepOn, .instanceMethod yX7_stepOn, .selects RX7 yX7_stepOn yX7_stepOn, .initialized RX7, .fieldLink RX7 20 "TemplateForge$Machine" "frames" "[LTemplateForge$Frame;", .fieldLink RX7 81 "TemplateForge$Tally" "calls" "I", .fieldLink RX7 84 "TemplateForge$Frame" "program" "LTemplateForge$Program;", .fieldLink RX7 88 "TemplateForge$Program" "plain" "LTemplateForge$Code;", .fieldLink RX7 94 "TemplateForge$Frame" "code" "LTemplateForge$Code;", .methodLink RX7 66 yX7_begin, .instanceMethod yX7_begin, .selects RX7 yX7_begin yX7_begin]
def zw_zd_X11_run_w5 : List Cond := [.code yX7_choosePath cX7_choosePath 3 none, .fieldLink RX7 133 "TemplateForge$Heat" "hasCode" "Z", .fieldLink RX7 32 "TemplateForge$Machine" "data" "LTemplateForge$Data;", .code yX5_remember cX5_remember 5 none, .fieldLink RX5 26 "TemplateForge$Heat" "counted" "I", .code yX2_valueOf cX2_valueOf 2 (some .int), .fieldLink RX2 9 "TemplateForge$Data" "fields" "[I", .methodLink RX5 36 yX2_valueOf, .instanceMethod yX2_valueOf, .selects RX2 yX2_valueOf yX2_valueOf, .initialized RX2, .fieldLink RX5 9 "TemplateForge$Heat" "first" "[I", .fieldLink RX5 15 "TemplateForge$Heat" "same" "[Z", .code yX4_valueOf cX4_valueOf 2 (some .int), .methodLink RX5 30 yX4_valueOf, .instanceMethod yX4_valueOf]
def zw_zd_X11_run_w6 : List Cond := [.selects RX4 yX4_valueOf yX4_valueOf, .methodLink RX7 146 yX5_remember, .instanceMethod yX5_remember, .selects RX5 yX5_remember yX5_remember, .initialized RX5, .fieldLink RX7 137 "TemplateForge$Heat" "latest" "LTemplateForge$Code;", .fieldLink RX7 140 "TemplateForge$Heat" "ran" "I", .fieldLink RX7 143 "TemplateForge$Tally" "coded" "I", .code yX7_latestFrame cX7_latestFrame 1 (some (.object "TemplateForge$Frame")), .methodLink RX7 111 yX7_latestFrame, .instanceMethod yX7_latestFrame, .selects RX7 yX7_latestFrame yX7_latestFrame, .fieldLink RX7 115 "TemplateForge$Program" "heat" "LTemplateForge$Heat;", .code yX5_isHot cX5_isHot 1 (some .boolean), .fieldLink RX5 22 "TemplateForge$Heat" "hasCode" "Z", .methodLink RX7 119 yX5_isHot]
def zw_zd_X11_run_w7 : List Cond := [.instanceMethod yX5_isHot, .selects RX5 yX5_isHot yX5_isHot, .fieldLink RX7 41 "TemplateForge$Machine" "smith" "LTemplateForge$Smith;", .code yX9_forge cX9_forge 4 (some (.object "TemplateForge$Code")), .fieldLink RX9 25 "TemplateForge$Smith" "draft" "LTemplateForge$Draft;", .code yX3_clear cX3_clear 1 none, .fieldLink RX3 18 "TemplateForge$Draft" "parts" "I", .fieldLink RX3 15 "TemplateForge$Draft" "starts" "[I", .methodLink RX3 22 yJ7_fill_53178, .methodLink RX9 29 yX3_clear, .instanceMethod yX3_clear, .selects RX3 yX3_clear yX3_clear, .initialized RX3, .code yX9_findTargets cX9_findTargets 5 none, .fieldLink RX9 55 "TemplateForge$Program" "length" "I", .code yX8_opAt cX8_opAt 2 (some .int)]
def zw_zd_X11_run_w8 : List Cond := [.code yX8_has cX8_has 2 (some .boolean), .fieldLink RX8 41 "TemplateForge$Program" "length" "I", .methodLink RX8 44 yX8_has, .instanceMethod yX8_has, .selects RX8 yX8_has yX8_has, .fieldLink RX8 18 "TemplateForge$Program" "ops" "[I", .methodLink RX9 86 yX8_opAt, .instanceMethod yX8_opAt, .selects RX8 yX8_opAt yX8_opAt, .code yX8_xAt cX8_xAt 2 (some .int), .fieldLink RX8 22 "TemplateForge$Program" "xs" "[I", .methodLink RX9 99 yX8_xAt, .instanceMethod yX8_xAt, .selects RX8 yX8_xAt yX8_xAt, .code yX8_isDead cX8_isDead 2 (some .boolean), .fieldLink RX8 25 "TemplateForge$Program" "depths" "[I"]
def zw_zd_X11_run_w9 : List Cond := [.methodLink RX9 59 yX8_isDead, .instanceMethod yX8_isDead, .selects RX8 yX8_isDead yX8_isDead, .fieldLink RX9 19 "TemplateForge$Smith" "target" "[Z", .methodLink RX9 34 yX9_findTargets, .instanceMethod yX9_findTargets, .selects RX9 yX9_findTargets yX9_findTargets, .initialized RX9, .code yX9_assume cX9_assume 5 none, .fieldLink RX9 22 "TemplateForge$Smith" "assumed" "[Z", .fieldLink RX9 41 "TemplateForge$Program" "heat" "LTemplateForge$Heat;", .code yX5_wasAlways cX5_wasAlways 2 (some .boolean), .fieldLink RX5 19 "TemplateForge$Heat" "varying" "[Z", .methodLink RX9 105 yX5_wasAlways, .instanceMethod yX5_wasAlways, .selects RX5 yX5_wasAlways yX5_wasAlways]
def zw_zd_X11_run_w10 : List Cond := [.code yX9_uses cX9_uses 5 (some .boolean), .methodLink RX9 108 yX9_uses, .instanceMethod yX9_uses, .selects RX9 yX9_uses yX9_uses, .fieldLink RX9 102 "TemplateForge$Program" "args" "I", .methodLink RX9 38 yX9_assume, .instanceMethod yX9_assume, .selects RX9 yX9_assume yX9_assume, .code yX9_addGuards cX9_addGuards 6 none, .methodLink RX9 112 Lib.Math.max.name, .static Lib.Math.max.name, .initialized "java/lang/Math", .code Lib.Math.max.name Lib.Math.max.code 2 (some .int), .code yX5_valueOf cX5_valueOf 2 (some .int), .methodLink RX9 118 yX5_valueOf, .instanceMethod yX5_valueOf]
def zw_zd_X11_run_w11 : List Cond := [.selects RX5 yX5_valueOf yX5_valueOf, .code yX3_add cX3_add 7 none, .fieldLink RX3 9 "TemplateForge$Draft" "cells" "[I", .methodLink RX9 121 yX3_add, .instanceMethod yX3_add, .selects RX3 yX3_add yX3_add, .methodLink RX9 47 yX9_addGuards, .instanceMethod yX9_addGuards, .selects RX9 yX9_addGuards yX9_addGuards, .code yX3_parts cX3_parts 1 (some .int), .methodLink RX9 51 yX3_parts, .instanceMethod yX3_parts, .selects RX3 yX3_parts yX3_parts, .fieldLink RX9 90 "TemplateForge$Heat" "made" "I", .code yX3_finish cX3_finish 5 (some (.object "TemplateForge$Code")), .methodLink RX3 48 Lib.Math.max.name]
def zw_zd_X11_run_w12 : List Cond := [.code yJ7_copyOf_59c91 cJ7_copyOf_59c91 3 (some (.array .int)), .methodLink RJ7 316 ⟨"[I", "clone", "()Ljava/lang/Object;"⟩, .sameMethod "[I" "java/lang/Object" "clone" "()Ljava/lang/Object;", .native ⟨"java/lang/Object", "clone", "()Ljava/lang/Object;"⟩, .instanceMethod ⟨"java/lang/Object", "clone", "()Ljava/lang/Object;"⟩, .selects "[I" ⟨"[I", "clone", "()Ljava/lang/Object;"⟩ ⟨"java/lang/Object", "clone", "()Ljava/lang/Object;"⟩, .classLink RJ7 317 "[I", .arrayClass .int, .methodLink RJ7 304 Lib.Math.min.name, .static Lib.Math.min.name, .code Lib.Math.min.name Lib.Math.min.code 2 (some .int), .methodLink RJ7 150 arraycopyName, .native arraycopyName, .static arraycopyName, .initialized "java/lang/System", .methodLink RX3 54 yJ7_copyOf_59c91]
def zw_zd_X11_run_w13 : List Cond := [.static yJ7_copyOf_59c91, .classLink RX3 58 RX1, .instantiable RX1 4, .initialized RX1, .code yX1_init cX1_init 5 none, .methodLink RX1 3 objectInit, .instanceMethod objectInit, .code objectInit ⟨#[0xb1]⟩ 1 none, .fieldLink RX1 9 "TemplateForge$Code" "making" "I", .fieldLink RX1 15 "TemplateForge$Code" "heads" "I", .fieldLink RX1 18 "TemplateForge$Code" "cells" "[I", .fieldLink RX1 22 "TemplateForge$Code" "starts" "[I", .methodLink RX3 60 yX1_init, .instanceMethod yX1_init, .methodLink RX9 95 yX3_finish, .instanceMethod yX3_finish]
def zw_zd_X11_run_w14 : List Cond := [.selects RX3 yX3_finish yX3_finish, .code yX9_knowArgsAlone cX9_knowArgsAlone 3 none, .code yX9_know cX9_know 3 none, .fieldLink RX9 9 "TemplateForge$Smith" "known" "[Z", .fieldLink RX9 15 "TemplateForge$Smith" "worth" "[I", .methodLink RX9 125 yX9_know, .instanceMethod yX9_know, .selects RX9 yX9_know yX9_know, .methodLink RX9 70 yX9_knowArgsAlone, .instanceMethod yX9_knowArgsAlone, .selects RX9 yX9_knowArgsAlone yX9_knowArgsAlone, .code yX3_begin cX3_begin 2 none, .methodLink RX9 74 yX3_begin, .instanceMethod yX3_begin, .selects RX3 yX3_begin yX3_begin, .code yX9_wantsTemplate cX9_wantsTemplate 6 (some .boolean)]
def zw_zd_X11_run_w15 : List Cond := [.code yX8_depthAt cX8_depthAt 2 (some .int), .methodLink RX9 129 yX8_depthAt, .instanceMethod yX8_depthAt, .selects RX8 yX8_depthAt yX8_depthAt, .code yX9_isResultKnown cX9_isResultKnown 6 (some .boolean), .code yX9_isKnown cX9_isKnown 2 (some .boolean), .methodLink RX9 154 yX9_isKnown, .instanceMethod yX9_isKnown, .selects RX9 yX9_isKnown yX9_isKnown, .code yX9_lay cX9_lay 5 none, .methodLink RX9 66 yX9_lay, .instanceMethod yX9_lay, .selects RX9 yX9_lay yX9_lay, .code yX9_worthOf cX9_worthOf 2 (some .int), .methodLink RX9 157 yX9_worthOf, .instanceMethod yX9_worthOf]
def zw_zd_X11_run_w16 : List Cond := [.selects RX9 yX9_worthOf yX9_worthOf, .code yX11_reckoned cX11_reckoned 3 (some .int), .static yX11_reckoned, .initialized RX11, .code yX9_forget cX9_forget 2 none, .methodLink RX9 140 yX9_forget, .instanceMethod yX9_forget, .selects RX9 yX9_forget yX9_forget, .methodLink RX9 150 yX9_isResultKnown, .instanceMethod yX9_isResultKnown, .selects RX9 yX9_isResultKnown yX9_isResultKnown, .code yX9_isCopyKnown cX9_isCopyKnown 3 (some .boolean), .methodLink RX9 132 yX9_isCopyKnown, .instanceMethod yX9_isCopyKnown, .selects RX9 yX9_isCopyKnown yX9_isCopyKnown, .code yX9_isStoredKnown cX9_isStoredKnown 4 (some .boolean)]
def zw_zd_X11_run_w17 : List Cond := [.methodLink RX9 136 yX9_isStoredKnown, .instanceMethod yX9_isStoredKnown, .selects RX9 yX9_isStoredKnown yX9_isStoredKnown, .code yX9_isWaySure cX9_isWaySure 4 (some .boolean), .methodLink RX9 143 yX9_isWaySure, .instanceMethod yX9_isWaySure, .selects RX9 yX9_isWaySure yX9_isWaySure, .code yX9_isFieldKnown cX9_isFieldKnown 5 (some .boolean), .methodLink RX9 146 yX9_isFieldKnown, .instanceMethod yX9_isFieldKnown, .selects RX9 yX9_isFieldKnown yX9_isFieldKnown, .methodLink RX9 78 yX9_wantsTemplate, .instanceMethod yX9_wantsTemplate, .selects RX9 yX9_wantsTemplate yX9_wantsTemplate, .code yX3_addTemplate cX3_addTemplate 6 none, .methodLink RX3 28 yX8_opAt]
def zw_zd_X11_run_w18 : List Cond := [.methodLink RX3 34 yX8_xAt, .methodLink RX3 37 yX8_depthAt, .code yX3_addReckoning cX3_addReckoning 5 none, .methodLink RX3 40 yX3_add, .methodLink RX3 44 yX3_addReckoning, .instanceMethod yX3_addReckoning, .selects RX3 yX3_addReckoning yX3_addReckoning, .methodLink RX9 82 yX3_addTemplate, .instanceMethod yX3_addTemplate, .selects RX3 yX3_addTemplate yX3_addTemplate, .code yX8_goesOnAt cX8_goesOnAt 3 (some .boolean), .methodLink RX8 48 yX8_opAt, .methodLink RX8 52 yX8_isDead, .methodLink RX9 63 yX8_goesOnAt, .instanceMethod yX8_goesOnAt, .selects RX8 yX8_goesOnAt yX8_goesOnAt]
def zw_zd_X11_run_w19 : List Cond := [.methodLink RX7 125 yX9_forge, .instanceMethod yX9_forge, .selects RX9 yX9_forge yX9_forge, .code yX5_take cX5_take 2 none, .fieldLink RX5 39 "TemplateForge$Heat" "latest" "LTemplateForge$Code;", .fieldLink RX5 43 "TemplateForge$Code" "making" "I", .fieldLink RX5 48 "TemplateForge$Heat" "made" "I", .methodLink RX7 129 yX5_take, .instanceMethod yX5_take, .selects RX5 yX5_take yX5_take, .methodLink RX7 69 yX7_choosePath, .instanceMethod yX7_choosePath, .selects RX7 yX7_choosePath yX7_choosePath, .code yX7_turn cX7_turn 9 none, .code yX1_parts cX1_parts 1 (some .int), .methodLink RX7 153 yX1_parts]
def zw_zd_X11_run_w20 : List Cond := [.instanceMethod yX1_parts, .selects RX1 yX1_parts yX1_parts, .fieldLink RX7 159 "TemplateForge$Code" "cells" "[I", .code yX7_turnThatMayTrap cX7_turnThatMayTrap 7 none, .methodLink RX7 162 yX4_valueOf, .code yX7_endByTrap cX7_endByTrap 4 none, .fieldLink RX7 244 "TemplateForge$Program" "number" "I", .methodLink RX7 247 yX10_noteTrap, .methodLink RX7 205 yX7_endByTrap, .instanceMethod yX7_endByTrap, .selects RX7 yX7_endByTrap yX7_endByTrap, .code yX7_newRow cX7_newRow 5 none, .code yX2_renew cX2_renew 3 none, .fieldLink RX2 15 "TemplateForge$Data" "lengths" "[I", .fieldLink RX2 18 "TemplateForge$Data" "items" "[I", .code yJ7_fill_fda19 cJ7_fill_fda19 5 none]
def zw_zd_X11_run_w21 : List Cond := [.code yJ7_rangeCheck_23922 cJ7_rangeCheck_23922 3 none, .methodLink RJ7 13 yJ7_rangeCheck_23922, .static yJ7_rangeCheck_23922, .methodLink RX2 27 yJ7_fill_fda19, .static yJ7_fill_fda19, .methodLink RX7 238 yX2_renew, .instanceMethod yX2_renew, .selects RX2 yX2_renew yX2_renew, .methodLink RX7 190 yX7_newRow, .instanceMethod yX7_newRow, .selects RX7 yX7_newRow yX7_newRow, .code yX7_isThere cX7_isThere 5 (some .boolean), .code yX2_lengthOf cX2_lengthOf 2 (some .int), .methodLink RX7 241 yX2_lengthOf, .instanceMethod yX2_lengthOf, .selects RX2 yX2_lengthOf yX2_lengthOf]
def zw_zd_X11_run_w22 : List Cond := [.methodLink RX7 193 yX7_isThere, .instanceMethod yX7_isThere, .selects RX7 yX7_isThere yX7_isThere, .code yX2_itemOf cX2_itemOf 3 (some .int), .methodLink RX2 30 yX2_lengthOf, .methodLink RX7 197 yX2_itemOf, .instanceMethod yX2_itemOf, .selects RX2 yX2_itemOf yX2_itemOf, .code yX2_putItem cX2_putItem 4 none, .methodLink RX7 201 yX2_putItem, .instanceMethod yX2_putItem, .selects RX2 yX2_putItem yX2_putItem, .methodLink RX7 186 yX7_turnThatMayTrap, .instanceMethod yX7_turnThatMayTrap, .selects RX7 yX7_turnThatMayTrap yX7_turnThatMayTrap, .code yX7_goTo cX7_goTo 4 none]
def zw_zd_X11_run_w23 : List Cond := [.code yX1_startOf cX1_startOf 2 (some .int), .methodLink RX1 25 yX1_parts, .methodLink RX7 212 yX1_startOf, .instanceMethod yX1_startOf, .selects RX1 yX1_startOf yX1_startOf, .methodLink RX7 166 yX7_goTo, .instanceMethod yX7_goTo, .selects RX7 yX7_goTo yX7_goTo, .code yX7_call cX7_call 6 none, .methodLink RX7 170 yX7_call, .instanceMethod yX7_call, .selects RX7 yX7_call yX7_call, .code yX7_giveBack cX7_giveBack 4 none, .fieldLink RX7 215 "TemplateForge$Tally" "returned" "I", .methodLink RX7 174 yX7_giveBack, .instanceMethod yX7_giveBack]
def zw_zd_X11_run_w24 : List Cond := [.selects RX7 yX7_giveBack yX7_giveBack, .methodLink RX7 182 yX2_valueOf, .code yX2_put cX2_put 3 none, .methodLink RX7 185 yX2_put, .instanceMethod yX2_put, .selects RX2 yX2_put yX2_put, .code yX7_guard cX7_guard 8 none, .fieldLink RX7 218 "TemplateForge$Tally" "failed" "I", .fieldLink RX7 221 "TemplateForge$Heat" "failed" "I", .code yX5_markVarying cX5_markVarying 2 none, .methodLink RX7 222 yX5_markVarying, .instanceMethod yX5_markVarying, .selects RX5 yX5_markVarying yX5_markVarying, .fieldLink RX7 235 "TemplateForge$Code" "heads" "I", .fieldLink RX7 226 "TemplateForge$Heat" "made" "I", .fieldLink RX7 229 "TemplateForge$Code" "making" "I"]
def zw_zd_X11_run_w25 : List Cond := [.code yX5_throwAway cX5_throwAway 1 none, .methodLink RX7 232 yX5_throwAway, .instanceMethod yX5_throwAway, .selects RX5 yX5_throwAway yX5_throwAway, .methodLink RX7 178 yX7_guard, .instanceMethod yX7_guard, .selects RX7 yX7_guard yX7_guard, .methodLink RX7 63 yX7_turn, .instanceMethod yX7_turn, .selects RX7 yX7_turn yX7_turn, .methodLink RX11 97 yX7_go, .instanceMethod yX7_go, .selects RX7 yX7_go yX7_go]
def zw_zd_X11_run : List Cond := .code yX11_run cX11_run 5 (some .int) :: ((zw_zd_X11_run_w0 ++ (zw_zd_X11_run_w1 ++ (zw_zd_X11_run_w2 ++ (zw_zd_X11_run_w3 ++ (zw_zd_X11_run_w4 ++ (zw_zd_X11_run_w5 ++ (zw_zd_X11_run_w6 ++ (zw_zd_X11_run_w7 ++ (zw_zd_X11_run_w8 ++ (zw_zd_X11_run_w9 ++ (zw_zd_X11_run_w10 ++ (zw_zd_X11_run_w11 ++ (zw_zd_X11_run_w12 ++ (zw_zd_X11_run_w13 ++ (zw_zd_X11_run_w14 ++ (zw_zd_X11_run_w15 ++ (zw_zd_X11_run_w16 ++ (zw_zd_X11_run_w17 ++ (zw_zd_X11_run_w18 ++ (zw_zd_X11_run_w19 ++ (zw_zd_X11_run_w20 ++ (zw_zd_X11_run_w21 ++ (zw_zd_X11_run_w22 ++ (zw_zd_X11_run_w23 ++ (zw_zd_X11_run_w24 ++ (zw_zd_X11_run_w25)))))))))))))))))))))))))) ++ wsX110 ++ wsX00 ++ wsX80 ++ wsX70 ++ wsX100 ++ wsX40 ++ wsX50 ++ wsX20 ++ wsX90 ++ wsX30 ++ wsX10)
set_option maxRecDepth 100000 in
theorem zg_zd_X11_run_zd_X0_at_48_a : GoodIn zw_zd_X11_run [.methodLink RX11 48 yX0_at, .instanceMethod yX0_at, .selects RX0 yX0_at yX0_at, .initialized RX0] := goodIn_r _ [5, 6, 7, 8] rfl (by decide +kernel)
set_option maxRecDepth 100000 in
theorem zg_zd_X11_run_zd_X0_at_48_c : GoodIn zw_zd_X11_run [.code yX0_at cX0_at 2 (some (.object "TemplateForge$Program"))] := goodIn_r _ [2] rfl (by decide +kernel)
set_option maxRecDepth 100000 in
theorem zg_zd_X11_run_zd_X0_at_48_0 : GoodIn zw_zd_X11_run zw_zd_X0_at_w0 := goodIn_r _ [3, 4] rfl (by decide +kernel)
theorem zg_zd_X11_run_zd_X0_at_48 : GoodIn zw_zd_X11_run (wsV RX11 48 RX0 yX0_at zw_zd_X0_at) := goodIn_app zg_zd_X11_run_zd_X0_at_48_a (goodIn_ca (a := (zw_zd_X0_at_w0)) (show GoodIn zw_zd_X11_run (.code yX0_at cX0_at 2 (some (.object "TemplateForge$Program")) :: (zw_zd_X0_at_w0)) from goodIn_app zg_zd_X11_run_zd_X0_at_48_c (zg_zd_X11_run_zd_X0_at_48_0)) (fun w h => ⟨(fun _ h => List.mem_cons_of_mem _ (List.mem_append_left _ (List.mem_append_left _ (List.mem_append_left _ (List.mem_append_left _ (List.mem_append_left _ (List.mem_append_left _ (List.mem_append_left _ (List.mem_append_left _ (List.mem_append_left _ (List.mem_append_right _ h))))))))))) w h, good_of_word (List.all_eq_true.mp zgw_X0 w h)⟩))
set_option maxRecDepth 100000 in
theorem zg_zd_X11_run_zd_X0_isRight_87_a : GoodIn zw_zd_X11_run [.methodLink RX11 87 yX0_isRight, .instanceMethod yX0_isRight, .selects RX0 yX0_isRight yX0_isRight, .initialized RX0] := goodIn_r _ [17, 18, 19, 8] rfl (by decide +kernel)
set_option maxRecDepth 100000 in
theorem zg_zd_X11_run_zd_X0_isRight_87_c : GoodIn zw_zd_X11_run [.code yX0_isRight cX0_isRight 3 (some .boolean)] := goodIn_r _ [9] rfl (by decide +kernel)
set_option maxRecDepth 100000 in
theorem zg_zd_X11_run_zd_X0_isRight_87_0 : GoodIn zw_zd_X11_run zw_zd_X0_isRight_w0 := goodIn_r _ [3, 2, 4, 10, 6, 7, 8, 11, 12, 13, 14, 15, 16] rfl (by decide +kernel)
theorem zg_zd_X11_run_zd_X0_isRight_87 : GoodIn zw_zd_X11_run (wsV RX11 87 RX0 yX0_isRight zw_zd_X0_isRight) := goodIn_app zg_zd_X11_run_zd_X0_isRight_87_a (goodIn_ca (a := ((zw_zd_X0_isRight_w0) ++ wsX00)) (goodIn_ca (a := (zw_zd_X0_isRight_w0)) (show GoodIn zw_zd_X11_run (.code yX0_isRight cX0_isRight 3 (some .boolean) :: (zw_zd_X0_isRight_w0)) from goodIn_app zg_zd_X11_run_zd_X0_isRight_87_c (zg_zd_X11_run_zd_X0_isRight_87_0)) (fun w h => ⟨(fun _ h => List.mem_cons_of_mem _ (List.mem_append_left _ (List.mem_append_left _ (List.mem_append_left _ (List.mem_append_left _ (List.mem_append_left _ (List.mem_append_left _ (List.mem_append_left _ (List.mem_append_left _ (List.mem_append_left _ (List.mem_append_right _ h))))))))))) w h, good_of_word (List.all_eq_true.mp zgw_X0 w h)⟩)) (fun w h => ⟨(fun _ h => List.mem_cons_of_mem _ (List.mem_append_left _ (List.mem_append_left _ (List.mem_append_left _ (List.mem_append_left _ (List.mem_append_left _ (List.mem_append_left _ (List.mem_append_left _ (List.mem_append_left _ (List.mem_append_right _ h)))))))))) w h, good_of_word (List.all_eq_true.mp zgw_X8 w h)⟩))
set_option maxRecDepth 100000 in
theorem zg_zd_X11_run_zd_X7_go_97_a : GoodIn zw_zd_X11_run [.methodLink RX11 97 yX7_go, .instanceMethod yX7_go, .selects RX7 yX7_go yX7_go, .initialized RX7] := goodIn_r _ [411, 412, 413, 72] rfl (by decide +kernel)
set_option maxRecDepth 100000 in
theorem zg_zd_X11_run_zd_X7_go_97_c : GoodIn zw_zd_X11_run [.code yX7_go cX7_go 6 (some .int)] := goodIn_r _ [23] rfl (by decide +kernel)
set_option maxRecDepth 100000 in
theorem zg_zd_X11_run_zd_X7_go_97_0 : GoodIn zw_zd_X11_run zw_zd_X7_go_w0 := goodIn_r _ [24, 25, 26, 27, 28, 29, 30, 31, 32, 33, 34, 35, 36, 37, 38, 39] rfl (by decide +kernel)
set_option maxRecDepth 100000 in
theorem zg_zd_X11_run_zd_X7_go_97_1 : GoodIn zw_zd_X11_run zw_zd_X7_go_w1 := goodIn_r _ [40, 41, 42, 43, 44, 45, 46, 47, 48, 49, 50, 51, 52, 53, 54, 55] rfl (by decide +kernel)
set_option maxRecDepth 100000 in
theorem zg_zd_X11_run_zd_X7_go_97_2 : GoodIn zw_zd_X11_run zw_zd_X7_go_w2 := goodIn_r _ [56, 57, 58, 59, 60, 61, 62, 63, 64, 65, 2, 3, 4, 66, 6, 7] rfl (by decide +kernel)
set_option maxRecDepth 100000 in
theorem zg_zd_X11_run_zd_X7_go_97_3 : GoodIn zw_zd_X11_run zw_zd_X7_go_w3 := goodIn_r _ [8, 67, 68, 69, 70, 71, 72, 73, 74, 75, 76, 77, 78, 79, 80, 81] rfl (by decide +kernel)
set_option maxRecDepth 100000 in
theorem zg_zd_X11_run_zd_X7_go_97_4 : GoodIn zw_zd_X11_run zw_zd_X7_go_w4 := goodIn_r _ [82, 83, 84, 85, 86, 87, 88, 89, 90, 91, 92, 93, 94, 95, 96, 97] rfl (by decide +kernel)
set_option maxRecDepth 100000 in
theorem zg_zd_X11_run_zd_X7_go_97_5 : GoodIn zw_zd_X11_run zw_zd_X7_go_w5 := goodIn_r _ [98, 99, 100, 101, 102, 103, 104, 105, 106, 107, 108, 109, 110, 111, 112, 113] rfl (by decide +kernel)
set_option maxRecDepth 100000 in
theorem zg_zd_X11_run_zd_X7_go_97_6 : GoodIn zw_zd_X11_run zw_zd_X7_go_w6 := goodIn_r _ [114, 115, 116, 117, 118, 119, 120, 121, 122, 123, 124, 125, 126, 127, 128, 129] rfl (by decide +kernel)
set_option maxRecDepth 100000 in
theorem zg_zd_X11_run_zd_X7_go_97_7 : GoodIn zw_zd_X11_run zw_zd_X7_go_w7 := goodIn_r _ [130, 131, 132, 133, 16, 134, 135, 136, 137, 138, 139, 140, 141, 142, 143, 144] rfl (by decide +kernel)
set_option maxRecDepth 100000 in
theorem zg_zd_X11_run_zd_X7_go_97_8 : GoodIn zw_zd_X11_run zw_zd_X7_go_w8 := goodIn_r _ [145, 146, 147, 148, 149, 150, 151, 152, 153, 154, 155, 156, 157, 158, 159, 160] rfl (by decide +kernel)
set_option maxRecDepth 100000 in
theorem zg_zd_X11_run_zd_X7_go_97_9 : GoodIn zw_zd_X11_run zw_zd_X7_go_w9 := goodIn_r _ [161, 162, 163, 164, 165, 166, 167, 168, 169, 170, 171, 172, 173, 174, 175, 176] rfl (by decide +kernel)
set_option maxRecDepth 100000 in
theorem zg_zd_X11_run_zd_X7_go_97_10 : GoodIn zw_zd_X11_run zw_zd_X7_go_w10 := goodIn_r _ [177, 178, 179, 180, 181, 182, 183, 184, 185, 186, 187, 188, 189, 190, 191, 192] rfl (by decide +kernel)
set_option maxRecDepth 100000 in
theorem zg_zd_X11_run_zd_X7_go_97_11 : GoodIn zw_zd_X11_run zw_zd_X7_go_w11 := goodIn_r _ [193, 194, 195, 196, 197, 198, 199, 200, 201, 202, 203, 204, 205, 206, 207, 208] rfl (by decide +kernel)
set_option maxRecDepth 100000 in
theorem zg_zd_X11_run_zd_X7_go_97_12 : GoodIn zw_zd_X11_run zw_zd_X7_go_w12 := goodIn_r _ [209, 210, 211, 212, 213, 214, 215, 216, 217, 218, 219, 220, 221, 222, 223, 224] rfl (by decide +kernel)
set_option maxRecDepth 100000 in
theorem zg_zd_X11_run_zd_X7_go_97_13 : GoodIn zw_zd_X11_run zw_zd_X7_go_w13 := goodIn_r _ [225, 226, 227, 228, 229, 230, 231, 232, 233, 234, 235, 236, 237, 238, 239, 240] rfl (by decide +kernel)
set_option maxRecDepth 100000 in
theorem zg_zd_X11_run_zd_X7_go_97_14 : GoodIn zw_zd_X11_run zw_zd_X7_go_w14 := goodIn_r _ [241, 242, 243, 244, 245, 246, 247, 248, 249, 250, 251, 252, 253, 254, 255, 256] rfl (by decide +kernel)
set_option maxRecDepth 100000 in
theorem zg_zd_X11_run_zd_X7_go_97_15 : GoodIn zw_zd_X11_run zw_zd_X7_go_w15 := goodIn_r _ [257, 258, 259, 260, 261, 262, 263, 264, 265, 266, 267, 268, 269, 270, 271, 272] rfl (by decide +kernel)
set_option maxRecDepth 100000 in
theorem zg_zd_X11_run_zd_X7_go_97_16 : GoodIn zw_zd_X11_run zw_zd_X7_go_w16 := goodIn_r _ [273, 274, 275, 276, 277, 278, 279, 280, 281, 282, 283, 284, 285, 286, 287, 288] rfl (by decide +kernel)
set_option maxRecDepth 100000 in
theorem zg_zd_X11_run_zd_X7_go_97_17 : GoodIn zw_zd_X11_run zw_zd_X7_go_w17 := goodIn_r _ [289, 290, 291, 292, 293, 294, 295, 296, 297, 298, 299, 300, 301, 302, 303, 304] rfl (by decide +kernel)
set_option maxRecDepth 100000 in
theorem zg_zd_X11_run_zd_X7_go_97_18 : GoodIn zw_zd_X11_run zw_zd_X7_go_w18 := goodIn_r _ [305, 306, 307, 308, 309, 310, 311, 312, 313, 314, 315, 316, 317, 318, 319, 320] rfl (by decide +kernel)
set_option maxRecDepth 100000 in
theorem zg_zd_X11_run_zd_X7_go_97_19 : GoodIn zw_zd_X11_run zw_zd_X7_go_w19 := goodIn_r _ [321, 322, 323, 324, 325, 326, 327, 328, 329, 330, 331, 332, 333, 334, 335, 336] rfl (by decide +kernel)
set_option maxRecDepth 100000 in
theorem zg_zd_X11_run_zd_X7_go_97_20 : GoodIn zw_zd_X11_run zw_zd_X7_go_w20 := goodIn_r _ [337, 338, 339, 340, 341, 342, 343, 344, 345, 346, 347, 348, 349, 350, 351, 352] rfl (by decide +kernel)
set_option maxRecDepth 100000 in
theorem zg_zd_X11_run_zd_X7_go_97_21 : GoodIn zw_zd_X11_run zw_zd_X7_go_w21 := goodIn_r _ [353, 354, 355, 356, 357, 358, 359, 360, 361, 362, 363, 364, 365, 366, 367, 368] rfl (by decide +kernel)
set_option maxRecDepth 100000 in
theorem zg_zd_X11_run_zd_X7_go_97_22 : GoodIn zw_zd_X11_run zw_zd_X7_go_w22 := goodIn_r _ [369, 370, 371, 372, 373, 374, 375, 376, 377, 378, 379, 380, 381, 382, 383, 384] rfl (by decide +kernel)
set_option maxRecDepth 100000 in
theorem zg_zd_X11_run_zd_X7_go_97_23 : GoodIn zw_zd_X11_run zw_zd_X7_go_w23 := goodIn_r _ [385, 386, 387, 388, 389, 390, 391, 392, 393, 394, 395, 396, 397, 398, 399, 400] rfl (by decide +kernel)
set_option maxRecDepth 100000 in
theorem zg_zd_X11_run_zd_X7_go_97_24 : GoodIn zw_zd_X11_run zw_zd_X7_go_w24 := goodIn_r _ [401, 402, 403, 404, 405, 406, 407, 408, 409, 410] rfl (by decide +kernel)
theorem zg_zd_X11_run_zd_X7_go_97 : GoodIn zw_zd_X11_run (wsV RX11 97 RX7 yX7_go zw_zd_X7_go) := goodIn_app zg_zd_X11_run_zd_X7_go_97_a (goodIn_ca (a := ((((((((((zw_zd_X7_go_w0 ++ (zw_zd_X7_go_w1 ++ (zw_zd_X7_go_w2 ++ (zw_zd_X7_go_w3 ++ (zw_zd_X7_go_w4 ++ (zw_zd_X7_go_w5 ++ (zw_zd_X7_go_w6 ++ (zw_zd_X7_go_w7 ++ (zw_zd_X7_go_w8 ++ (zw_zd_X7_go_w9 ++ (zw_zd_X7_go_w10 ++ (zw_zd_X7_go_w11 ++ (zw_zd_X7_go_w12 ++ (zw_zd_X7_go_w13 ++ (zw_zd_X7_go_w14 ++ (zw_zd_X7_go_w15 ++ (zw_zd_X7_go_w16 ++ (zw_zd_X7_go_w17 ++ (zw_zd_X7_go_w18 ++ (zw_zd_X7_go_w19 ++ (zw_zd_X7_go_w20 ++ (zw_zd_X7_go_w21 ++ (zw_zd_X7_go_w22 ++ (zw_zd_X7_go_w23 ++ (zw_zd_X7_go_w24))))))))))))))))))))))))) ++ wsX70) ++ wsX100) ++ wsX40) ++ wsX80) ++ wsX00) ++ wsX50) ++ wsX20) ++ wsX90) ++ wsX30)) (goodIn_ca (a := (((((((((zw_zd_X7_go_w0 ++ (zw_zd_X7_go_w1 ++ (zw_zd_X7_go_w2 ++ (zw_zd_X7_go_w3 ++ (zw_zd_X7_go_w4 ++ (zw_zd_X7_go_w5 ++ (zw_zd_X7_go_w6 ++ (zw_zd_X7_go_w7 ++ (zw_zd_X7_go_w8 ++ (zw_zd_X7_go_w9 ++ (zw_zd_X7_go_w10 ++ (zw_zd_X7_go_w11 ++ (zw_zd_X7_go_w12 ++ (zw_zd_X7_go_w13 ++ (zw_zd_X7_go_w14 ++ (zw_zd_X7_go_w15 ++ (zw_zd_X7_go_w16 ++ (zw_zd_X7_go_w17 ++ (zw_zd_X7_go_w18 ++ (zw_zd_X7_go_w19 ++ (zw_zd_X7_go_w20 ++ (zw_zd_X7_go_w21 ++ (zw_zd_X7_go_w22 ++ (zw_zd_X7_go_w23 ++ (zw_zd_X7_go_w24))))))))))))))))))))))))) ++ wsX70) ++ wsX100) ++ wsX40) ++ wsX80) ++ wsX00) ++ wsX50) ++ wsX20) ++ wsX90)) (goodIn_ca (a := ((((((((zw_zd_X7_go_w0 ++ (zw_zd_X7_go_w1 ++ (zw_zd_X7_go_w2 ++ (zw_zd_X7_go_w3 ++ (zw_zd_X7_go_w4 ++ (zw_zd_X7_go_w5 ++ (zw_zd_X7_go_w6 ++ (zw_zd_X7_go_w7 ++ (zw_zd_X7_go_w8 ++ (zw_zd_X7_go_w9 ++ (zw_zd_X7_go_w10 ++ (zw_zd_X7_go_w11 ++ (zw_zd_X7_go_w12 ++ (zw_zd_X7_go_w13 ++ (zw_zd_X7_go_w14 ++ (zw_zd_X7_go_w15 ++ (zw_zd_X7_go_w16 ++ (zw_zd_X7_go_w17 ++ (zw_zd_X7_go_w18 ++ (zw_zd_X7_go_w19 ++ (zw_zd_X7_go_w20 ++ (zw_zd_X7_go_w21 ++ (zw_zd_X7_go_w22 ++ (zw_zd_X7_go_w23 ++ (zw_zd_X7_go_w24))))))))))))))))))))))))) ++ wsX70) ++ wsX100) ++ wsX40) ++ wsX80) ++ wsX00) ++ wsX50) ++ wsX20)) (goodIn_ca (a := (((((((zw_zd_X7_go_w0 ++ (zw_zd_X7_go_w1 ++ (zw_zd_X7_go_w2 ++ (zw_zd_X7_go_w3 ++ (zw_zd_X7_go_w4 ++ (zw_zd_X7_go_w5 ++ (zw_zd_X7_go_w6 ++ (zw_zd_X7_go_w7 ++ (zw_zd_X7_go_w8 ++ (zw_zd_X7_go_w9 ++ (zw_zd_X7_go_w10 ++ (zw_zd_X7_go_w11 ++ (zw_zd_X7_go_w12 ++ (zw_zd_X7_go_w13 ++ (zw_zd_X7_go_w14 ++ (zw_zd_X7_go_w15 ++ (zw_zd_X7_go_w16 ++ (zw_zd_X7_go_w17 ++ (zw_zd_X7_go_w18 ++ (zw_zd_X7_go_w19 ++ (zw_zd_X7_go_w20 ++ (zw_zd_X7_go_w21 ++ (zw_zd_X7_go_w22 ++ (zw_zd_X7_go_w23 ++ (zw_zd_X7_go_w24))))))))))))))))))))))))) ++ wsX70) ++ wsX100) ++ wsX40) ++ wsX80) ++ wsX00) ++ wsX50)) (goodIn_ca (a := ((((((zw_zd_X7_go_w0 ++ (zw_zd_X7_go_w1 ++ (zw_zd_X7_go_w2 ++ (zw_zd_X7_go_w3 ++ (zw_zd_X7_go_w4 ++ (zw_zd_X7_go_w5 ++ (zw_zd_X7_go_w6 ++ (zw_zd_X7_go_w7 ++ (zw_zd_X7_go_w8 ++ (zw_zd_X7_go_w9 ++ (zw_zd_X7_go_w10 ++ (zw_zd_X7_go_w11 ++ (zw_zd_X7_go_w12 ++ (zw_zd_X7_go_w13 ++ (zw_zd_X7_go_w14 ++ (zw_zd_X7_go_w15 ++ (zw_zd_X7_go_w16 ++ (zw_zd_X7_go_w17 ++ (zw_zd_X7_go_w18 ++ (zw_zd_X7_go_w19 ++ (zw_zd_X7_go_w20 ++ (zw_zd_X7_go_w21 ++ (zw_zd_X7_go_w22 ++ (zw_zd_X7_go_w23 ++ (zw_zd_X7_go_w24))))))))))))))))))))))))) ++ wsX70) ++ wsX100) ++ wsX40) ++ wsX80) ++ wsX00)) (goodIn_ca (a := (((((zw_zd_X7_go_w0 ++ (zw_zd_X7_go_w1 ++ (zw_zd_X7_go_w2 ++ (zw_zd_X7_go_w3 ++ (zw_zd_X7_go_w4 ++ (zw_zd_X7_go_w5 ++ (zw_zd_X7_go_w6 ++ (zw_zd_X7_go_w7 ++ (zw_zd_X7_go_w8 ++ (zw_zd_X7_go_w9 ++ (zw_zd_X7_go_w10 ++ (zw_zd_X7_go_w11 ++ (zw_zd_X7_go_w12 ++ (zw_zd_X7_go_w13 ++ (zw_zd_X7_go_w14 ++ (zw_zd_X7_go_w15 ++ (zw_zd_X7_go_w16 ++ (zw_zd_X7_go_w17 ++ (zw_zd_X7_go_w18 ++ (zw_zd_X7_go_w19 ++ (zw_zd_X7_go_w20 ++ (zw_zd_X7_go_w21 ++ (zw_zd_X7_go_w22 ++ (zw_zd_X7_go_w23 ++ (zw_zd_X7_go_w24))))))))))))))))))))))))) ++ wsX70) ++ wsX100) ++ wsX40) ++ wsX80)) (goodIn_ca (a := ((((zw_zd_X7_go_w0 ++ (zw_zd_X7_go_w1 ++ (zw_zd_X7_go_w2 ++ (zw_zd_X7_go_w3 ++ (zw_zd_X7_go_w4 ++ (zw_zd_X7_go_w5 ++ (zw_zd_X7_go_w6 ++ (zw_zd_X7_go_w7 ++ (zw_zd_X7_go_w8 ++ (zw_zd_X7_go_w9 ++ (zw_zd_X7_go_w10 ++ (zw_zd_X7_go_w11 ++ (zw_zd_X7_go_w12 ++ (zw_zd_X7_go_w13 ++ (zw_zd_X7_go_w14 ++ (zw_zd_X7_go_w15 ++ (zw_zd_X7_go_w16 ++ (zw_zd_X7_go_w17 ++ (zw_zd_X7_go_w18 ++ (zw_zd_X7_go_w19 ++ (zw_zd_X7_go_w20 ++ (zw_zd_X7_go_w21 ++ (zw_zd_X7_go_w22 ++ (zw_zd_X7_go_w23 ++ (zw_zd_X7_go_w24))))))))))))))))))))))))) ++ wsX70) ++ wsX100) ++ wsX40)) (goodIn_ca (a := (((zw_zd_X7_go_w0 ++ (zw_zd_X7_go_w1 ++ (zw_zd_X7_go_w2 ++ (zw_zd_X7_go_w3 ++ (zw_zd_X7_go_w4 ++ (zw_zd_X7_go_w5 ++ (zw_zd_X7_go_w6 ++ (zw_zd_X7_go_w7 ++ (zw_zd_X7_go_w8 ++ (zw_zd_X7_go_w9 ++ (zw_zd_X7_go_w10 ++ (zw_zd_X7_go_w11 ++ (zw_zd_X7_go_w12 ++ (zw_zd_X7_go_w13 ++ (zw_zd_X7_go_w14 ++ (zw_zd_X7_go_w15 ++ (zw_zd_X7_go_w16 ++ (zw_zd_X7_go_w17 ++ (zw_zd_X7_go_w18 ++ (zw_zd_X7_go_w19 ++ (zw_zd_X7_go_w20 ++ (zw_zd_X7_go_w21 ++ (zw_zd_X7_go_w22 ++ (zw_zd_X7_go_w23 ++ (zw_zd_X7_go_w24))))))))))))))))))))))))) ++ wsX70) ++ wsX100)) (goodIn_ca (a := ((zw_zd_X7_go_w0 ++ (zw_zd_X7_go_w1 ++ (zw_zd_X7_go_w2 ++ (zw_zd_X7_go_w3 ++ (zw_zd_X7_go_w4 ++ (zw_zd_X7_go_w5 ++ (zw_zd_X7_go_w6 ++ (zw_zd_X7_go_w7 ++ (zw_zd_X7_go_w8 ++ (zw_zd_X7_go_w9 ++ (zw_zd_X7_go_w10 ++ (zw_zd_X7_go_w11 ++ (zw_zd_X7_go_w12 ++ (zw_zd_X7_go_w13 ++ (zw_zd_X7_go_w14 ++ (zw_zd_X7_go_w15 ++ (zw_zd_X7_go_w16 ++ (zw_zd_X7_go_w17 ++ (zw_zd_X7_go_w18 ++ (zw_zd_X7_go_w19 ++ (zw_zd_X7_go_w20 ++ (zw_zd_X7_go_w21 ++ (zw_zd_X7_go_w22 ++ (zw_zd_X7_go_w23 ++ (zw_zd_X7_go_w24))))))))))))))))))))))))) ++ wsX70)) (goodIn_ca (a := (zw_zd_X7_go_w0 ++ (zw_zd_X7_go_w1 ++ (zw_zd_X7_go_w2 ++ (zw_zd_X7_go_w3 ++ (zw_zd_X7_go_w4 ++ (zw_zd_X7_go_w5 ++ (zw_zd_X7_go_w6 ++ (zw_zd_X7_go_w7 ++ (zw_zd_X7_go_w8 ++ (zw_zd_X7_go_w9 ++ (zw_zd_X7_go_w10 ++ (zw_zd_X7_go_w11 ++ (zw_zd_X7_go_w12 ++ (zw_zd_X7_go_w13 ++ (zw_zd_X7_go_w14 ++ (zw_zd_X7_go_w15 ++ (zw_zd_X7_go_w16 ++ (zw_zd_X7_go_w17 ++ (zw_zd_X7_go_w18 ++ (zw_zd_X7_go_w19 ++ (zw_zd_X7_go_w20 ++ (zw_zd_X7_go_w21 ++ (zw_zd_X7_go_w22 ++ (zw_zd_X7_go_w23 ++ (zw_zd_X7_go_w24)))))))))))))))))))))))))) (show GoodIn zw_zd_X11_run (.code yX7_go cX7_go 6 (some .int) :: (zw_zd_X7_go_w0 ++ (zw_zd_X7_go_w1 ++ (zw_zd_X7_go_w2 ++ (zw_zd_X7_go_w3 ++ (zw_zd_X7_go_w4 ++ (zw_zd_X7_go_w5 ++ (zw_zd_X7_go_w6 ++ (zw_zd_X7_go_w7 ++ (zw_zd_X7_go_w8 ++ (zw_zd_X7_go_w9 ++ (zw_zd_X7_go_w10 ++ (zw_zd_X7_go_w11 ++ (zw_zd_X7_go_w12 ++ (zw_zd_X7_go_w13 ++ (zw_zd_X7_go_w14 ++ (zw_zd_X7_go_w15 ++ (zw_zd_X7_go_w16 ++ (zw_zd_X7_go_w17 ++ (zw_zd_X7_go_w18 ++ (zw_zd_X7_go_w19 ++ (zw_zd_X7_go_w20 ++ (zw_zd_X7_go_w21 ++ (zw_zd_X7_go_w22 ++ (zw_zd_X7_go_w23 ++ (zw_zd_X7_go_w24)))))))))))))))))))))))))) from goodIn_app zg_zd_X11_run_zd_X7_go_97_c (goodIn_app zg_zd_X11_run_zd_X7_go_97_0 (goodIn_app zg_zd_X11_run_zd_X7_go_97_1 (goodIn_app zg_zd_X11_run_zd_X7_go_97_2 (goodIn_app zg_zd_X11_run_zd_X7_go_97_3 (goodIn_app zg_zd_X11_run_zd_X7_go_97_4 (goodIn_app zg_zd_X11_run_zd_X7_go_97_5 (goodIn_app zg_zd_X11_run_zd_X7_go_97_6 (goodIn_app zg_zd_X11_run_zd_X7_go_97_7 (goodIn_app zg_zd_X11_run_zd_X7_go_97_8 (goodIn_app zg_zd_X11_run_zd_X7_go_97_9 (goodIn_app zg_zd_X11_run_zd_X7_go_97_10 (goodIn_app zg_zd_X11_run_zd_X7_go_97_11 (goodIn_app zg_zd_X11_run_zd_X7_go_97_12 (goodIn_app zg_zd_X11_run_zd_X7_go_97_13 (goodIn_app zg_zd_X11_run_zd_X7_go_97_14 (goodIn_app zg_zd_X11_run_zd_X7_go_97_15 (goodIn_app zg_zd_X11_run_zd_X7_go_97_16 (goodIn_app zg_zd_X11_run_zd_X7_go_97_17 (goodIn_app zg_zd_X11_run_zd_X7_go_97_18 (goodIn_app zg_zd_X11_run_zd_X7_go_97_19 (goodIn_app zg_zd_X11_run_zd_X7_go_97_20 (goodIn_app zg_zd_X11_run_zd_X7_go_97_21 (goodIn_app zg_zd_X11_run_zd_X7_go_97_22 (goodIn_app zg_zd_X11_run_zd_X7_go_97_23 (zg_zd_X11_run_zd_X7_go_97_24)))))))))))))))))))))))))) (fun w h => ⟨(fun _ h => List.mem_cons_of_mem _ (List.mem_append_left _ (List.mem_append_left _ (List.mem_append_left _ (List.mem_append_left _ (List.mem_append_left _ (List.mem_append_left _ (List.mem_append_left _ (List.mem_append_right _ h))))))))) w h, good_of_word (List.all_eq_true.mp zgw_X7 w h)⟩)) (fun w h => ⟨(fun _ h => List.mem_cons_of_mem _ (List.mem_append_left _ (List.mem_append_left _ (List.mem_append_left _ (List.mem_append_left _ (List.mem_append_left _ (List.mem_append_left _ (List.mem_append_right _ h)))))))) w h, good_of_word (List.all_eq_true.mp zgw_X10 w h)⟩)) (fun w h => ⟨(fun _ h => List.mem_cons_of_mem _ (List.mem_append_left _ (List.mem_append_left _ (List.mem_append_left _ (List.mem_append_left _ (List.mem_append_left _ (List.mem_append_right _ h))))))) w h, good_of_word (List.all_eq_true.mp zgw_X4 w h)⟩)) (fun w h => ⟨(fun _ h => List.mem_cons_of_mem _ (List.mem_append_left _ (List.mem_append_left _ (List.mem_append_left _ (List.mem_append_left _ (List.mem_append_left _ (List.mem_append_left _ (List.mem_append_left _ (List.mem_append_left _ (List.mem_append_right _ h)))))))))) w h, good_of_word (List.all_eq_true.mp zgw_X8 w h)⟩)) (fun w h => ⟨(fun _ h => List.mem_cons_of_mem _ (List.mem_append_left _ (List.mem_append_left _ (List.mem_append_left _ (List.mem_append_left _ (List.mem_append_left _ (List.mem_append_left _ (List.mem_append_left _ (List.mem_append_left _ (List.mem_append_left _ (List.mem_append_right _ h))))))))))) w h, good_of_word (List.all_eq_true.mp zgw_X0 w h)⟩)) (fun w h => ⟨(fun _ h => List.mem_cons_of_mem _ (List.mem_append_left _ (List.mem_append_left _ (List.mem_append_left _ (List.mem_append_left _ (List.mem_append_right _ h)))))) w h, good_of_word (List.all_eq_true.mp zgw_X5 w h)⟩)) (fun w h => ⟨(fun _ h => List.mem_cons_of_mem _ (List.mem_append_left _ (List.mem_append_left _ (List.mem_append_left _ (List.mem_append_right _ h))))) w h, good_of_word (List.all_eq_true.mp zgw_X2 w h)⟩)) (fun w h => ⟨(fun _ h => List.mem_cons_of_mem _ (List.mem_append_left _ (List.mem_append_left _ (List.mem_append_right _ h)))) w h, good_of_word (List.all_eq_true.mp zgw_X9 w h)⟩)) (fun w h => ⟨(fun _ h => List.mem_cons_of_mem _ (List.mem_append_left _ (List.mem_append_right _ h))) w h, good_of_word (List.all_eq_true.mp zgw_X3 w h)⟩)) (fun w h => ⟨(fun _ h => List.mem_cons_of_mem _ (List.mem_append_right _ h)) w h, good_of_word (List.all_eq_true.mp zgw_X1 w h)⟩))
set_option maxHeartbeats 16000000 in
set_option maxRecDepth 100000 in
theorem zd_X11_run (l : Launch) (D : va_G) (cI cZ cP cF : Nat) (q : Nat → Nat → Nat) (S : CST) (a1 : Int32) (a2 : Int32) (a3 : Int32) (a4 : Int32) (sz : Nat) (Post : CST → Int32 → Prop) (h : wp_X11_run S a1 a2 a3 a4 Post) (hcap : cCap S) : MetV l yX11_run zw_zd_X11_run ({ frames := 7, cells := rmc S, slots := rms S, locals := 176 }) (va_Pc [.ref (q 0 0), .int a1, .int a2, .int a3, .int a4] (fun U => U.heap.size = sz ∧ va_P D vwCl (cW cI cZ cP cF q S) U.heap ∧ zF D cI cZ cP cF U ∧ va_D (fun _ => True) (cW cI cZ cP cF q S))) (xQi (fun S' r => Post S' r) (fun (q' : Nat → Nat → Nat) (S' : CST) k n t => va_P D vwCl (cW cI cZ cP cF q' S') t.heap ∧ va_D (va_A (cW cI cZ cP cF q S) sz) (cW cI cZ cP cF q' S') ∧ cA q S q' S' k n) (va_A (cW cI cZ cP cF q S) sz)) (va_A (cW cI cZ cP cF q S) sz) := by
  unfold wp_X11_run at h
  refine MetV.ofW (cc := cX11_run) (maxL := 5) (ret := (some .int)) (by decide) rfl ?_
  intro p e s m args below meth c s₁ B hml hv
  obtain ⟨rfl, hsz, hP, hE, hD0⟩ := hv
  have hx := B.exec
  have hb := B.bytes
  have hr := B.returns
  have hts := atoms_spec (ws := zw_zd_X11_run) B.pre
  have hown : s.vm.findClass RX11 = some m.cls := findClass_of_methodNamed B.named
  have hlocks := B.notSynchronized
  have hK := hE.k
  subst hsz
  have hD := hD0.self (sz := s.heap.size)
  generalize hAe : va_A (cW cI cZ cP cF q S) s.heap.size = A at hD ⊢
  have hA : ∀ q : Nat, s.heap.size ≤ q → A q := fun q h => by rw [← hAe]; exact Or.inr h
  have hl := lv_entry ([.ref (q 0 0), .int a1, .int a2, .int a3, .int a4]) (n := 5) (Nat.le_of_ble_eq_true rfl)
  rw [lg_entry_eq]
  generalize (lg_sl ([.ref (q 0 0), .int a1, .int a2, .int a3, .int a4]) ++ List.replicate (5 - (lg_sl ([.ref (q 0 0), .int a1, .int a2, .int a3, .int a4])).length) Slot.unset).toArray = ls at hl ⊢
  have hl : lv_has ls 5 [(0, .ref (q 0 0)), (1, .int a1), (2, .int a2), (3, .int a3), (4, .int a4)] := hl
  have key : ∀ (H : Heap) (locs : List Loc) (cells slots : Nat), va_P D vwCl (cW cI cZ cP cF q S) H → va_S A s.heap H locs → cA q S q S cells slots → W p l e (headSpec zw_zd_X11_run ({ frames := 7, cells := rmc S, slots := rms S, locals := 176 })).room s m ([.ref (q 0 0), .int a1, .int a2, .int a3, .int a4] : List Value).toArray below meth c H locs cells slots (MQV below (xQi (fun S' r => Post S' r) (fun (q' : Nat → Nat → Nat) (S' : CST) k n t => va_P D vwCl (cW cI cZ cP cF q' S') t.heap ∧ va_D A (cW cI cZ cP cF q' S') ∧ cA q S q' S' k n) A) ([.ref (q 0 0), .int a1, .int a2, .int a3, .int a4] : List Value).toArray s A) (F0 m 0 ls []) := by
    intro H locs cells slots hP hS hN
    refine lv_aload_n hx hb dX11_run_0 rfl (lv_at hl 0 rfl) ?_
    obtain ⟨p_1, hp_1⟩ := cget_0 cI cZ cP cF q S
    have hi_1 : cin S 0 0 := Or.inl ⟨by decide, rfl⟩
    refine va_get (D := D) (ci := 11) (v := .ref (q 1 0)) (C := RX11) (T := TX11) (N := 4) hx hb hts (fun _ h => List.mem_cons_of_mem _ (List.mem_append_left _ (List.mem_append_left _ (List.mem_append_left _ (List.mem_append_left _ (List.mem_append_left _ (List.mem_append_left _ (List.mem_append_left _ (List.mem_append_left _ (List.mem_append_left _ (List.mem_append_left _ (List.mem_append_right _ h)))))))))))) hown hK hP p_1 hp_1 rfl 0 (by decide) (hts (.fieldLink RX11 15 "TemplateForge" "book" "LTemplateForge$Book;") (List.mem_of_getElem? (i := 1) rfl)) (fun _ h9 => h9) rfl dX11_run_1 ?_
    refine lv_iload_n hx hb dX11_run_4 rfl (lv_at hl 1 rfl) ?_
    obtain ⟨p_2, hp_2⟩ := cget_1 cI cZ cP cF q S
    have hi_2 : cin S 1 0 := Or.inl ⟨by decide, rfl⟩
    refine va_csq (va_Run.run (va_runV (As := [.int a1]) (rest := []) ⟨hx, hb, hml, hown, hts⟩ (zd_X0_at l D cI cZ cP cF q S a1  _ h) (cwV 1 hts zg_zd_X11_run_zd_X0_at_48 rfl rfl rfl (by decide +kernel) ⟨Nat.le_of_ble_eq_true rfl, Nat.le_of_ble_eq_true rfl⟩) ⟨zCR, va_recv hK hP (ci := 0) (q0 := p_2) rfl hp_2, fun U hU hW => ⟨rfl, by rw [hU]; exact hP, hE.warm hW⟩⟩ rfl rfl hl.1 rfl (lv_room (Nat.le_of_ble_eq_true rfl)) dX11_run_5 (cA_le hN))) (fun o_3 ho_3 => ?_)
    obtain ⟨r3, rfl, h⟩ := ho_3
    by_cases hn_4 : r3 < 0
    · have h := h.1 hn_4
      rw [show va_rf (cno q 24 r3) = .null from cn_neg hn_4]
      refine lv_ifnonnullN hx hb dX11_run_8 ?_
      refine lv_bipush (v := (-2)) hx hb dX11_run_11 (by decide) ?_
      exact zV_i (v := (-2)) hx hb hr (fun t ht hW => ⟨⟨_, q, S, rfl, h, by rw [ht]; exact hP, hD, hN⟩, hS.F ht⟩) hS.2.2 dX11_run_13 hlocks
    · have h := h.2 hn_4
      rw [show va_rf (cno q 24 r3) = .ref (q 24 (r3 : Int32).toNatClampNeg) from cn_pos hn_4]
      refine lv_ifnonnull (tgt := 14) hx hb dX11_run_8 (by decide) ?_
      refine lv_aload_n hx hb dX11_run_14 rfl (lv_at hl 0 rfl) ?_
      obtain ⟨p_5, hp_5⟩ := cget_0 cI cZ cP cF q S
      have hi_5 : cin S 0 0 := Or.inl ⟨by decide, rfl⟩
      refine va_get (D := D) (ci := 11) (v := .ref (q 1 0)) (C := RX11) (T := TX11) (N := 4) hx hb hts (fun _ h => List.mem_cons_of_mem _ (List.mem_append_left _ (List.mem_append_left _ (List.mem_append_left _ (List.mem_append_left _ (List.mem_append_left _ (List.mem_append_left _ (List.mem_append_left _ (List.mem_append_left _ (List.mem_append_left _ (List.mem_append_left _ (List.mem_append_right _ h)))))))))))) hown hK hP p_5 hp_5 rfl 0 (by decide) (hts (.fieldLink RX11 15 "TemplateForge" "book" "LTemplateForge$Book;") (List.mem_of_getElem? (i := 1) rfl)) (fun _ h9 => h9) rfl dX11_run_15 ?_
      obtain ⟨p_6, hp_6⟩ := cget_1 cI cZ cP cF q S
      have hi_6 : cin S 1 0 := Or.inl ⟨by decide, rfl⟩
      refine vp_callSi (va_Run.run (va_runV (As := []) (rest := []) ⟨hx, hb, hml, hown, hts⟩ (zd_X0_isRight l D cI cZ cP cF q S   _ h) (cwV 0 hts zg_zd_X11_run_zd_X0_isRight_87 rfl rfl rfl (by decide +kernel) ⟨Nat.le_of_ble_eq_true rfl, Nat.le_of_ble_eq_true rfl⟩) ⟨zCR, va_recv hK hP (ci := 0) (q0 := p_6) rfl hp_6, fun U hU hW => ⟨rfl, by rw [hU]; exact hP, hE.warm hW⟩⟩ rfl rfl hl.1 rfl (lv_room (Nat.le_of_ble_eq_true rfl)) dX11_run_18 (cA_le hN))) (fun r7 h => ?_)
      refine lv_if_ne (tgt := 27) hx hb dX11_run_21 (by decide) (fun c_8 => ?_) (fun c_8 => ?_)
      · have h := h.1 c_8
        refine lv_aload_n hx hb dX11_run_27 rfl (lv_at hl 0 rfl) ?_
        obtain ⟨p_9, hp_9⟩ := cget_0 cI cZ cP cF q S
        have hi_9 : cin S 0 0 := Or.inl ⟨by decide, rfl⟩
        refine va_get (D := D) (ci := 11) (v := .ref (q 12 0)) (C := RX11) (T := TX11) (N := 4) hx hb hts (fun _ h => List.mem_cons_of_mem _ (List.mem_append_left _ (List.mem_append_left _ (List.mem_append_left _ (List.mem_append_left _ (List.mem_append_left _ (List.mem_append_left _ (List.mem_append_left _ (List.mem_append_left _ (List.mem_append_left _ (List.mem_append_left _ (List.mem_append_right _ h)))))))))))) hown hK hP p_9 hp_9 rfl 3 (by decide) (hts (.fieldLink RX11 40 "TemplateForge" "machine" "LTemplateForge$Machine;") (List.mem_of_getElem? (i := 20) rfl)) (fun _ h9 => h9) rfl dX11_run_28 ?_
        obtain ⟨p_10, hp_10⟩ := cget_12 cI cZ cP cF q S
        have hi_10 : cin S 12 0 := Or.inl ⟨by decide, rfl⟩
        refine va_get (D := D) (ci := 7) (v := .ref (q 20 0)) (C := RX7) (T := TX7) (N := 10) hx hb hts (fun _ h => List.mem_cons_of_mem _ (List.mem_append_left _ (List.mem_append_left _ (List.mem_append_left _ (List.mem_append_left _ (List.mem_append_left _ (List.mem_append_left _ (List.mem_append_left _ (List.mem_append_right _ h))))))))) hown hK hP p_10 hp_10 rfl 3 (by decide) (hts (.fieldLink RX11 88 "TemplateForge$Machine" "tally" "LTemplateForge$Tally;") (List.mem_of_getElem? (i := 21) rfl)) (fun _ h9 => h9) rfl dX11_run_31 ?_
        obtain ⟨p_11, hp_11⟩ := cget_20 cI cZ cP cF q S
        have hi_11 : cin S 20 0 := Or.inl ⟨by decide, rfl⟩
        refine va_get (D := D) (ci := 10) (v := .int (cv S 200 0 0)) (C := RX10) (T := TX10) (N := 7) hx hb hts (fun _ h => List.mem_cons_of_mem _ (List.mem_append_left _ (List.mem_append_left _ (List.mem_append_left _ (List.mem_append_left _ (List.mem_append_left _ (List.mem_append_left _ (List.mem_append_right _ h)))))))) hown hK hP p_11 hp_11 rfl 0 (by decide) (hts (.fieldLink RX11 92 "TemplateForge$Tally" "runs" "I") (List.mem_of_getElem? (i := 22) rfl)) (fun _ h9 => h9) rfl dX11_run_34 ?_
        refine lv_bipush (v := 80) hx hb dX11_run_37 (by decide) ?_
        refine lv_icmp_lt (tgt := 45) hx hb dX11_run_39 (by decide) (fun c_12 => ?_) (fun c_12 => ?_)
        · have h := h.1 c_12
          refine lv_aload_n hx hb dX11_run_45 rfl (lv_at hl 0 rfl) ?_
          obtain ⟨p_13, hp_13⟩ := cget_0 cI cZ cP cF q S
          have hi_13 : cin S 0 0 := Or.inl ⟨by decide, rfl⟩
          refine va_get (D := D) (ci := 11) (v := .ref (q 12 0)) (C := RX11) (T := TX11) (N := 4) hx hb hts (fun _ h => List.mem_cons_of_mem _ (List.mem_append_left _ (List.mem_append_left _ (List.mem_append_left _ (List.mem_append_left _ (List.mem_append_left _ (List.mem_append_left _ (List.mem_append_left _ (List.mem_append_left _ (List.mem_append_left _ (List.mem_append_left _ (List.mem_append_right _ h)))))))))))) hown hK hP p_13 hp_13 rfl 3 (by decide) (hts (.fieldLink RX11 40 "TemplateForge" "machine" "LTemplateForge$Machine;") (List.mem_of_getElem? (i := 20) rfl)) (fun _ h9 => h9) rfl dX11_run_46 ?_
          refine lv_iload_n hx hb dX11_run_49 rfl (lv_at hl 1 rfl) ?_
          refine lv_iload_n hx hb dX11_run_50 rfl (lv_at hl 2 rfl) ?_
          refine lv_iload_n hx hb dX11_run_51 rfl (lv_at hl 3 rfl) ?_
          refine lv_iload hx hb dX11_run_52 (lv_at hl 4 rfl) ?_
          obtain ⟨p_14, hp_14⟩ := cget_12 cI cZ cP cF q S
          have hi_14 : cin S 12 0 := Or.inl ⟨by decide, rfl⟩
          have hFc := zm_free hD hS hA
          refine xc_i (z_runV (As := [.int a1, .int a2, .int a3, .int a4]) (rest := []) ⟨hx, hb, hml, hown, hts⟩ (zd_X7_go l D cI cZ cP cF q S a1 a2 a3 a4 H.size _ h (cA_cap hN)) (cwV 4 hts zg_zd_X11_run_zd_X7_go_97 rfl rfl rfl (by decide +kernel) ⟨Nat.le_of_ble_eq_true rfl, Nat.le_of_ble_eq_true rfl⟩) ⟨zCW, va_recv hK hP (ci := 7) (q0 := p_14) rfl hp_14, fun U hU hW => ⟨rfl, by rw [hU], by rw [hU]; exact hP, hE.warm hW, hD.weaken (fun _ _ _ _ => trivial)⟩⟩ rfl rfl hl.1 rfl (lv_room (Nat.le_of_ble_eq_true rfl)) dX11_run_54 (cA_room hN)) hS (fun q _ h => hFc q h) hFc (fun r16 q16 S16 k n t H locs ht hvm h hB hz1 hk1 hS => ?_)
          obtain ⟨hP, hD1, hN1⟩ := hB
          rw [ht] at hP
          have hD := hD1.weaken (fun k q _ hq => hFc q.1 hq)
          have e_15 : q16 0 0 = q 0 0 := hN1.1 0 0 (Or.inl ⟨by decide, rfl⟩)
          have hN := cA_step hN hN1.1 hN1.2
          have hl : lv_has ls 5 [(0, .ref (q16 0 0)), (1, .int a1), (2, .int a2), (3, .int a3), (4, .int a4)] := by simp only [e_15]; exact hl
          exact zV_i (v := r16) hx hb hr (fun t ht hW => ⟨⟨_, q16, S16, rfl, h, by rw [ht]; exact hP, hD, hN⟩, hS.F ht⟩) hS.2.2 dX11_run_57 hlocks
        · have h := h.2 c_12
          refine lv_bipush (v := (-4)) hx hb dX11_run_42 (by decide) ?_
          exact zV_i (v := (-4)) hx hb hr (fun t ht hW => ⟨⟨_, q, S, rfl, h, by rw [ht]; exact hP, hD, hN⟩, hS.F ht⟩) hS.2.2 dX11_run_44 hlocks
      · have h := h.2 c_8
        refine lv_bipush (v := (-3)) hx hb dX11_run_24 (by decide) ?_
        exact zV_i (v := (-3)) hx hb hr (fun t ht hW => ⟨⟨_, q, S, rfl, h, by rw [ht]; exact hP, hD, hN⟩, hS.F ht⟩) hS.2.2 dX11_run_26 hlocks
  exact key _ _ 0 0 hP va_S.rf (cA_rf hcap)

