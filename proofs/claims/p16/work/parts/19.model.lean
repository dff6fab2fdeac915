def wl_X12_run_155 (K_190 : MST → Prop) (Post : MST → Int32 → Prop) : Nat → MST → Prop
  | 0, _ => False
  | n_155 + 1, S_155 => ((¬ (((S_155 43 0) : Int32) = 0)) → ((K_190 S_155 ))) ∧ ((((S_155 43 0) : Int32) = 0) → (vp_in ((S_155 37 0) - 1) 16 ∧ (((0 ≤ (S_155 40 ((S_155 37 0) - 1 : Int32).toNatClampNeg)) → (wp_X12_goesByPart S_155  (fun S20 => wl_X12_run_155 K_190 Post n_155 S20 ))) ∧ ((¬ (0 ≤ (S_155 40 ((S_155 37 0) - 1 : Int32).toNatClampNeg))) → (wp_X12_goes S_155  (fun S21 => wl_X12_run_155 K_190 Post n_155 S21 ))))))
def wl_X12_run_102 (K_122 : MST → Int32 → Int32 → Int32 → Int32 → Prop) (Post : MST → Int32 → Prop) : Nat → MST → Int32 → Int32 → Int32 → Int32 → Int32 → Prop
  | 0, _, _, _, _, _, _ => False
  | n_102 + 1, S_102, x102_1, x102_2, x102_3, x102_4, x102_5 => ((4 ≤ x102_5) → ((K_122 S_102 x102_1 x102_2 x102_3 x102_4))) ∧ ((¬ (4 ≤ x102_5)) → (vp_in x102_5 4 ∧ (∀ S23 : MST, S23 = ms S_102 50 (upd (S_102 50) (x102_5 : Int32).toNatClampNeg 0) → (wl_X12_run_102 K_122 Post n_102 S23 x102_1 x102_2 x102_3 x102_4 (x102_5 + 1)))))
def wl_X12_run_14 (K_42 : MST → Int32 → Int32 → Int32 → Int32 → Prop) (K_33 : MST → Prop) (Post : MST → Int32 → Prop) : Nat → MST → Int32 → Int32 → Int32 → Int32 → Int32 → Prop
  | 0, _, _, _, _, _, _ => False
  | n_14 + 1, S_14, x14_1, x14_2, x14_3, x14_4, x14_5 => (((S_14 0 0) ≤ x14_5) → ((K_42 S_14 x14_1 x14_2 x14_3 x14_4))) ∧ ((¬ ((S_14 0 0) ≤ x14_5)) → (vp_in x14_5 8 ∧ (((¬ (((S_14 6 (x14_5 : Int32).toNatClampNeg) : Int32) = 0)) → (wl_X12_run_14 K_42 K_33 Post n_14 S_14 x14_1 x14_2 x14_3 x14_4 (x14_5 + 1))) ∧ ((((S_14 6 (x14_5 : Int32).toNatClampNeg) : Int32) = 0) → ((K_33 S_14 ))))))
def wp_X12_run (S : MST) (a1 : Int32) (a2 : Int32) (a3 : Int32) (a4 : Int32) (Post : MST → Int32 → Prop) : Prop :=
  wp_X12_isMethod S a1 (fun r1 => ((¬ ((r1 : Int32) = 0)) → (∃ n_14, wl_X12_run_14 (fun S_42 x42_1 x42_2 x42_3 x42_4 => ((¬ (((S_42 48 0) : Int32) = 80)) → (∀ S4 : MST, S4 = ms S_42 48 (fun _ => (S_42 48 0) + 1) → (∀ S5 : MST, S5 = ms S4 43 (fun _ => 0) → (∀ S6 : MST, S6 = ms S5 37 (fun _ => 0) → (∀ S7 : MST, S7 = ms S6 44 (fun _ => 0) → (∀ S8 : MST, S8 = ms S7 45 (fun _ => 0) → (∀ S9 : MST, S9 = ms S8 46 (fun _ => 0) → (∀ S10 : MST, S10 = ms S9 47 (fun _ => 0) → (∀ S11 : MST, S11 = ms S10 49 (fun _ => 0) → (∃ n_102, wl_X12_run_102 (fun S_122 x122_1 x122_2 x122_3 x122_4 => vp_in 0 3 ∧ (∀ S12 : MST, S12 = ms S_122 51 (upd (S_122 51) (0 : Int32).toNatClampNeg x122_2) → (vp_in 1 3 ∧ (∀ S13 : MST, S13 = ms S12 51 (upd (S12 51) (1 : Int32).toNatClampNeg x122_3) → (vp_in 2 3 ∧ (∀ S14 : MST, S14 = ms S13 51 (upd (S13 51) (2 : Int32).toNatClampNeg x122_4) → (wp_X12_call_f S14 x122_1 0 0 (fun S15 => ∃ n_155, wl_X12_run_155 (fun S_190 => ((¬ (((S_190 43 0) : Int32) = 2)) → (Post S_190 (S_190 43 0))) ∧ ((((S_190 43 0) : Int32) = 2) → (Post S_190 0))) Post n_155 S15 )))))))) Post n_102 S11 x42_1 x42_2 x42_3 x42_4 0)))))))))) ∧ ((((S_42 48 0) : Int32) = 80) → (Post S_42 (-4)))) (fun S_33 => Post S_33 (-3)) Post n_14 S a1 a2 a3 a4 0)) ∧ (((r1 : Int32) = 0) → (Post S (-2))))
def zw_zd_X12_run_w0 : List Cond := [.code yX12_isMethod cX12_isMethod 2 (some .boolean), .fieldLink RX12 140 "TemplateForgeModel" "methods" "I", .code yX12_in cX12_in 6 (some .boolean), .methodLink RX12 134 yX12_in, .static yX12_in, .initialized RX12, .methodLink RX12 144 yX12_isMethod, .instanceMethod yX12_isMethod, .selects RX12 yX12_isMethod yX12_isMethod, .fieldLink RX12 285 "TemplateForgeModel" "runs" "I", .fieldLink RX12 233 "TemplateForgeModel" "outcome" "I", .fieldLink RX12 236 "TemplateForgeModel" "open" "I", .fieldLink RX12 230 "TemplateForgeModel" "steps" "I", .fieldLink RX12 246 "TemplateForgeModel" "calls" "I", .fieldLink RX12 252 "TemplateForgeModel" "callsByCode" "I", .fieldLink RX12 275 "TemplateForgeModel" "failed" "I"]
def zw_zd_X12_run_w1 : List Cond := [.fieldLink RX12 259 "TemplateForgeModel" "answer" "I", .fieldLink RX12 129 "TemplateForgeModel" "first" "[I", .code yX12_call cX12_call 7 none, .fieldLink RX12 111 "TemplateForgeModel" "frameMethod" "[I", .fieldLink RX12 114 "TemplateForgeModel" "frameAt" "[I", .fieldLink RX12 120 "TemplateForgeModel" "frameDepth" "[I", .fieldLink RX12 50 "TemplateForgeModel" "hasCode" "[Z", .fieldLink RX12 117 "TemplateForgeModel" "frameCode" "[I", .code yX12_remember cX12_remember 6 none, .fieldLink RX12 53 "TemplateForgeModel" "counted" "[I", .fieldLink RX12 41 "TemplateForgeModel" "fields" "[I", .fieldLink RX12 68 "TemplateForgeModel" "isLike" "[Z", .fieldLink RX12 65 "TemplateForgeModel" "value" "[I", .fieldLink RX12 7 "TemplateForgeModel" "args" "[I", .methodLink RX12 255 yX12_remember, .instanceMethod yX12_remember]
def zw_zd_X12_run_w2 : List Cond := [.selects RX12 yX12_remember yX12_remember, .code yX12_codeNow cX12_codeNow 2 (some .int), .fieldLink RX12 56 "TemplateForgeModel" "madeCodes" "[I", .methodLink RX12 217 yX12_codeNow, .instanceMethod yX12_codeNow, .selects RX12 yX12_codeNow yX12_codeNow, .fieldLink RX12 62 "TemplateForgeModel" "codeCalls" "[I", .fieldLink RX12 123 "TemplateForgeModel" "register" "[I", .code yX12_stepOn cX12_stepOn 1 (some .boolean), .methodLink RX12 242 yX12_stepOn, .instanceMethod yX12_stepOn, .selects RX12 yX12_stepOn yX12_stepOn, .code yX12_makeCode cX12_makeCode 4 none, .code yX12_assumes cX12_assumes 4 none, .code yX12_has cX12_has 6 (some .boolean), .fieldLink RX12 16 "TemplateForgeModel" "many" "[I"]
def zw_zd_X12_run_w3 : List Cond := [.fieldLink RX12 29 "TemplateForgeModel" "depths" "[I", .fieldLink RX12 19 "TemplateForgeModel" "op" "[I", .fieldLink RX12 22 "TemplateForgeModel" "operand" "[I", .methodLink RX12 178 yX12_has, .instanceMethod yX12_has, .selects RX12 yX12_has yX12_has, .fieldLink RX12 96 "TemplateForgeModel" "assumed" "[Z", .fieldLink RX12 71 "TemplateForgeModel" "doesVary" "[Z", .methodLink RX12 214 yX12_assumes, .instanceMethod yX12_assumes, .selects RX12 yX12_assumes yX12_assumes, .fieldLink RX12 181 "TemplateForgeModel" "code" "I", .fieldLink RX12 74 "TemplateForgeModel" "partMany" "[I", .fieldLink RX12 184 "TemplateForgeModel" "owner" "I", .code yX12_fieldGuards cX12_fieldGuards 3 none, .code yX12_part cX12_part 6 none]
def zw_zd_X12_run_w4 : List Cond := [.fieldLink RX12 81 "TemplateForgeModel" "partOp" "[I", .fieldLink RX12 84 "TemplateForgeModel" "partD" "[I", .fieldLink RX12 87 "TemplateForgeModel" "partA" "[I", .fieldLink RX12 90 "TemplateForgeModel" "partB" "[I", .fieldLink RX12 93 "TemplateForgeModel" "partOf" "[I", .methodLink RX12 187 yX12_part, .instanceMethod yX12_part, .selects RX12 yX12_part yX12_part, .methodLink RX12 208 yX12_fieldGuards, .instanceMethod yX12_fieldGuards, .selects RX12 yX12_fieldGuards yX12_fieldGuards, .code yX12_begins cX12_begins 3 none, .fieldLink RX12 99 "TemplateForgeModel" "localKnown" "[Z", .fieldLink RX12 102 "TemplateForgeModel" "localIs" "[I", .fieldLink RX12 105 "TemplateForgeModel" "placeKnown" "[Z", .methodLink RX12 220 yX12_begins]
def zw_zd_X12_run_w5 : List Cond := [.instanceMethod yX12_begins, .selects RX12 yX12_begins yX12_begins, .code yX12_isTarget cX12_isTarget 3 (some .boolean), .methodLink RX12 223 yX12_isTarget, .instanceMethod yX12_isTarget, .selects RX12 yX12_isTarget yX12_isTarget, .fieldLink RX12 77 "TemplateForgeModel" "starts" "[I", .code yX12_make cX12_make 7 none, .code yX12_makeTwo cX12_makeTwo 5 none, .code yX12_layOne cX12_layOne 2 none, .fieldLink RX12 108 "TemplateForgeModel" "placeIs" "[I", .methodLink RX12 191 yX12_layOne, .instanceMethod yX12_layOne, .selects RX12 yX12_layOne yX12_layOne, .code yX12_sumOf cX12_sumOf 3 (some .int), .methodLink RX12 195 yX12_sumOf]
def zw_zd_X12_run_w6 : List Cond := [.static yX12_sumOf, .methodLink RX12 211 yX12_makeTwo, .instanceMethod yX12_makeTwo, .selects RX12 yX12_makeTwo yX12_makeTwo, .code yX12_knows cX12_knows 3 none, .methodLink RX12 201 yX12_knows, .instanceMethod yX12_knows, .selects RX12 yX12_knows yX12_knows, .code yX12_layAll cX12_layAll 3 none, .methodLink RX12 198 yX12_layAll, .instanceMethod yX12_layAll, .selects RX12 yX12_layAll yX12_layAll, .code yX12_makeWhen cX12_makeWhen 3 none, .methodLink RX12 205 yX12_makeWhen, .instanceMethod yX12_makeWhen, .selects RX12 yX12_makeWhen yX12_makeWhen]
def zw_zd_X12_run_w7 : List Cond := [.methodLink RX12 227 yX12_make, .instanceMethod yX12_make, .selects RX12 yX12_make yX12_make, .methodLink RX12 249 yX12_makeCode, .instanceMethod yX12_makeCode, .selects RX12 yX12_makeCode yX12_makeCode, .code yX12_traps cX12_traps 3 none, .fieldLink RX12 126 "TemplateForgeModel" "trap" "[I", .methodLink RX12 239 yX12_traps, .instanceMethod yX12_traps, .selects RX12 yX12_traps yX12_traps, .methodLink RX12 262 yX12_call, .instanceMethod yX12_call, .selects RX12 yX12_call yX12_call, .code yX12_goesByPart cX12_goesByPart 10 none, .code yX12_returns cX12_returns 5 none]
def zw_zd_X12_run_w8 : List Cond := [.methodLink RX12 266 yX12_returns, .instanceMethod yX12_returns, .selects RX12 yX12_returns yX12_returns, .code yX12_makesRow cX12_makesRow 4 (some .int), .fieldLink RX12 44 "TemplateForgeModel" "sizes" "[I", .fieldLink RX12 47 "TemplateForgeModel" "rows" "[I", .methodLink RX12 269 yX12_makesRow, .instanceMethod yX12_makesRow, .selects RX12 yX12_makesRow yX12_makesRow, .code yX12_refuses cX12_refuses 3 (some .int), .methodLink RX12 272 yX12_refuses, .instanceMethod yX12_refuses, .selects RX12 yX12_refuses yX12_refuses, .code yX12_fails cX12_fails 7 none, .code yX12_isBehindCall cX12_isBehindCall 3 (some .boolean), .methodLink RX12 278 yX12_isBehindCall]
def zw_zd_X12_run_w9 : List Cond := [.instanceMethod yX12_isBehindCall, .selects RX12 yX12_isBehindCall yX12_isBehindCall, .fieldLink RX12 59 "TemplateForgeModel" "guardsFailed" "[I", .methodLink RX12 281 yX12_fails, .instanceMethod yX12_fails, .selects RX12 yX12_fails yX12_fails, .methodLink RX12 291 yX12_goesByPart, .instanceMethod yX12_goesByPart, .selects RX12 yX12_goesByPart yX12_goesByPart, .code yX12_goes cX12_goes 10 none, .code yX12_takes cX12_takes 3 (some .int), .methodLink RX12 156 yX12_takes, .instanceMethod yX12_takes, .selects RX12 yX12_takes yX12_takes, .code yX12_lays cX12_lays 1 (some .int), .methodLink RX12 160 yX12_lays]
def zw_zd_X12_run_w10 : List Cond := [.static yX12_lays, .methodLink RX12 288 yX12_goes, .instanceMethod yX12_goes, .selects RX12 yX12_goes yX12_goes, .fieldLink RX12 25 "TemplateForgeModel" "isLooked" "[Z"]
def zw_zd_X12_run : List Cond := .code yX12_run cX12_run 6 (some .int) :: ((zw_zd_X12_run_w0 ++ (zw_zd_X12_run_w1 ++ (zw_zd_X12_run_w2 ++ (zw_zd_X12_run_w3 ++ (zw_zd_X12_run_w4 ++ (zw_zd_X12_run_w5 ++ (zw_zd_X12_run_w6 ++ (zw_zd_X12_run_w7 ++ (zw_zd_X12_run_w8 ++ (zw_zd_X12_run_w9 ++ (zw_zd_X12_run_w10))))))))))) ++ wsX120)
set_option maxRecDepth 100000 in
theorem zg_zd_X12_run_zd_X12_isMethod_144_a : GoodIn zw_zd_X12_run [.methodLink RX12 144 yX12_isMethod, .instanceMethod yX12_isMethod, .selects RX12 yX12_isMethod yX12_isMethod, .initialized RX12] := goodIn_r _ [7, 8, 9, 6] rfl (by decide +kernel)
set_option maxRecDepth 100000 in
theorem zg_zd_X12_run_zd_X12_isMethod_144_c : GoodIn zw_zd_X12_run [.code yX12_isMethod cX12_isMethod 2 (some .boolean)] := goodIn_r _ [1] rfl (by decide +kernel)
set_option maxRecDepth 100000 in
theorem zg_zd_X12_run_zd_X12_isMethod_144_0 : GoodIn zw_zd_X12_run zw_zd_X12_isMethod_w0 := goodIn_r _ [2, 3, 4, 5, 6] rfl (by decide +kernel)
theorem zg_zd_X12_run_zd_X12_isMethod_144 : GoodIn zw_zd_X12_run (wsV RX12 144 RX12 yX12_isMethod zw_zd_X12_isMethod) := goodIn_app zg_zd_X12_run_zd_X12_isMethod_144_a (goodIn_ca (a := (zw_zd_X12_isMethod_w0)) (show GoodIn zw_zd_X12_run (.code yX12_isMethod cX12_isMethod 2 (some .boolean) :: (zw_zd_X12_isMethod_w0)) from goodIn_app zg_zd_X12_run_zd_X12_isMethod_144_c (zg_zd_X12_run_zd_X12_isMethod_144_0)) (fun w h => ⟨(fun _ h => List.mem_cons_of_mem _ (List.mem_append_right _ h)) w h, good_of_word (List.all_eq_true.mp zgw_X12 w h)⟩))
set_option maxRecDepth 100000 in
theorem zg_zd_X12_run_zd_X12_call_f_262_a : GoodIn zw_zd_X12_run [.methodLink RX12 262 yX12_call, .instanceMethod yX12_call, .selects RX12 yX12_call yX12_call, .initialized RX12] := goodIn_r _ [124, 125, 126, 6] rfl (by decide +kernel)
set_option maxRecDepth 100000 in
theorem zg_zd_X12_run_zd_X12_call_f_262_c : GoodIn zw_zd_X12_run [.code yX12_call cX12_call 7 none] := goodIn_r _ [19] rfl (by decide +kernel)
set_option maxRecDepth 100000 in
theorem zg_zd_X12_run_zd_X12_call_f_262_0 : GoodIn zw_zd_X12_run zw_zd_X12_call_f_w0 := goodIn_r _ [12, 20, 21, 22, 23, 24, 25, 26, 27, 28, 29, 30, 31, 32, 33, 6] rfl (by decide +kernel)
set_option maxRecDepth 100000 in
theorem zg_zd_X12_run_zd_X12_call_f_262_1 : GoodIn zw_zd_X12_run zw_zd_X12_call_f_w1 := goodIn_r _ [34, 35, 36, 37, 38, 39, 15, 40, 41, 13, 11, 42, 43, 44, 14, 45] rfl (by decide +kernel)
set_option maxRecDepth 100000 in
theorem zg_zd_X12_run_zd_X12_call_f_262_2 : GoodIn zw_zd_X12_run zw_zd_X12_call_f_w2 := goodIn_r _ [46, 47, 48, 49, 50, 51, 52, 53, 54, 55, 56, 57, 58, 59, 60, 61] rfl (by decide +kernel)
set_option maxRecDepth 100000 in
theorem zg_zd_X12_run_zd_X12_call_f_262_3 : GoodIn zw_zd_X12_run zw_zd_X12_call_f_w3 := goodIn_r _ [62, 63, 64, 65, 66, 67, 68, 69, 70, 71, 72, 73, 74, 75, 76, 77] rfl (by decide +kernel)
set_option maxRecDepth 100000 in
theorem zg_zd_X12_run_zd_X12_call_f_262_4 : GoodIn zw_zd_X12_run zw_zd_X12_call_f_w4 := goodIn_r _ [78, 79, 80, 81, 82, 83, 84, 85, 86, 87, 88, 89, 90, 91, 92, 93] rfl (by decide +kernel)
set_option maxRecDepth 100000 in
theorem zg_zd_X12_run_zd_X12_call_f_262_5 : GoodIn zw_zd_X12_run zw_zd_X12_call_f_w5 := goodIn_r _ [94, 95, 96, 97, 98, 99, 100, 101, 102, 103, 104, 105, 106, 107, 108, 109] rfl (by decide +kernel)
set_option maxRecDepth 100000 in
theorem zg_zd_X12_run_zd_X12_call_f_262_6 : GoodIn zw_zd_X12_run zw_zd_X12_call_f_w6 := goodIn_r _ [110, 111, 112, 113, 114, 115, 116, 117, 118, 119, 120, 121, 122, 123] rfl (by decide +kernel)
theorem zg_zd_X12_run_zd_X12_call_f_262 : GoodIn zw_zd_X12_run (wsV RX12 262 RX12 yX12_call zw_zd_X12_call_f) := goodIn_app zg_zd_X12_run_zd_X12_call_f_262_a (goodIn_ca (a := (zw_zd_X12_call_f_w0 ++ (zw_zd_X12_call_f_w1 ++ (zw_zd_X12_call_f_w2 ++ (zw_zd_X12_call_f_w3 ++ (zw_zd_X12_call_f_w4 ++ (zw_zd_X12_call_f_w5 ++ (zw_zd_X12_call_f_w6)))))))) (show GoodIn zw_zd_X12_run (.code yX12_call cX12_call 7 none :: (zw_zd_X12_call_f_w0 ++ (zw_zd_X12_call_f_w1 ++ (zw_zd_X12_call_f_w2 ++ (zw_zd_X12_call_f_w3 ++ (zw_zd_X12_call_f_w4 ++ (zw_zd_X12_call_f_w5 ++ (zw_zd_X12_call_f_w6)))))))) from goodIn_app zg_zd_X12_run_zd_X12_call_f_262_c (goodIn_app zg_zd_X12_run_zd_X12_call_f_262_0 (goodIn_app zg_zd_X12_run_zd_X12_call_f_262_1 (goodIn_app zg_zd_X12_run_zd_X12_call_f_262_2 (goodIn_app zg_zd_X12_run_zd_X12_call_f_262_3 (goodIn_app zg_zd_X12_run_zd_X12_call_f_262_4 (goodIn_app zg_zd_X12_run_zd_X12_call_f_262_5 (zg_zd_X12_run_zd_X12_call_f_262_6)))))))) (fun w h => ⟨(fun _ h => List.mem_cons_of_mem _ (List.mem_append_right _ h)) w h, good_of_word (List.all_eq_true.mp zgw_X12 w h)⟩))
set_option maxRecDepth 100000 in
theorem zg_zd_X12_run_zd_X12_goesByPart_291_a : GoodIn zw_zd_X12_run [.methodLink RX12 291 yX12_goesByPart, .instanceMethod yX12_goesByPart, .selects RX12 yX12_goesByPart yX12_goesByPart, .initialized RX12] := goodIn_r _ [151, 152, 153, 6] rfl (by decide +kernel)
set_option maxRecDepth 100000 in
theorem zg_zd_X12_run_zd_X12_goesByPart_291_c : GoodIn zw_zd_X12_run [.code yX12_goesByPart cX12_goesByPart 10 none] := goodIn_r _ [127] rfl (by decide +kernel)
set_option maxRecDepth 100000 in
theorem zg_zd_X12_run_zd_X12_goesByPart_291_0 : GoodIn zw_zd_X12_run zw_zd_X12_goesByPart_w0 := goodIn_r _ [119, 11, 120, 20, 12, 121, 122, 123, 6, 65, 40, 95, 96, 97, 21, 24] rfl (by decide +kernel)
set_option maxRecDepth 100000 in
theorem zg_zd_X12_run_zd_X12_goesByPart_291_1 : GoodIn zw_zd_X12_run zw_zd_X12_goesByPart_w1 := goodIn_r _ [66, 67, 68, 69, 87, 41, 13, 42, 43, 44, 19, 22, 23, 25, 26, 27] rfl (by decide +kernel)
set_option maxRecDepth 100000 in
theorem zg_zd_X12_run_zd_X12_goesByPart_291_2 : GoodIn zw_zd_X12_run zw_zd_X12_goesByPart_w2 := goodIn_r _ [28, 29, 30, 31, 32, 33, 34, 35, 36, 37, 38, 39, 15, 14, 45, 46] rfl (by decide +kernel)
set_option maxRecDepth 100000 in
theorem zg_zd_X12_run_zd_X12_goesByPart_291_3 : GoodIn zw_zd_X12_run zw_zd_X12_goesByPart_w3 := goodIn_r _ [47, 48, 49, 50, 51, 52, 53, 54, 55, 56, 57, 58, 59, 60, 61, 62] rfl (by decide +kernel)
set_option maxRecDepth 100000 in
theorem zg_zd_X12_run_zd_X12_goesByPart_291_4 : GoodIn zw_zd_X12_run zw_zd_X12_goesByPart_w4 := goodIn_r _ [63, 64, 70, 71, 72, 73, 74, 75, 76, 77, 78, 79, 80, 81, 82, 83] rfl (by decide +kernel)
set_option maxRecDepth 100000 in
theorem zg_zd_X12_run_zd_X12_goesByPart_291_5 : GoodIn zw_zd_X12_run zw_zd_X12_goesByPart_w5 := goodIn_r _ [84, 85, 86, 88, 89, 90, 91, 92, 93, 94, 98, 99, 100, 101, 102, 103] rfl (by decide +kernel)
set_option maxRecDepth 100000 in
theorem zg_zd_X12_run_zd_X12_goesByPart_291_6 : GoodIn zw_zd_X12_run zw_zd_X12_goesByPart_w6 := goodIn_r _ [104, 105, 106, 107, 108, 109, 110, 111, 112, 113, 114, 115, 116, 117, 118, 124] rfl (by decide +kernel)
set_option maxRecDepth 100000 in
theorem zg_zd_X12_run_zd_X12_goesByPart_291_7 : GoodIn zw_zd_X12_run zw_zd_X12_goesByPart_w7 := goodIn_r _ [125, 126, 128, 17, 129, 130, 131, 132, 133, 134, 135, 136, 137, 138, 3, 4] rfl (by decide +kernel)
set_option maxRecDepth 100000 in
theorem zg_zd_X12_run_zd_X12_goesByPart_291_8 : GoodIn zw_zd_X12_run zw_zd_X12_goesByPart_w8 := goodIn_r _ [5, 139, 140, 141, 142, 143, 144, 145, 146, 147, 16, 148, 149, 150] rfl (by decide +kernel)
theorem zg_zd_X12_run_zd_X12_goesByPart_291 : GoodIn zw_zd_X12_run (wsV RX12 291 RX12 yX12_goesByPart zw_zd_X12_goesByPart) := goodIn_app zg_zd_X12_run_zd_X12_goesByPart_291_a (goodIn_ca (a := (zw_zd_X12_goesByPart_w0 ++ (zw_zd_X12_goesByPart_w1 ++ (zw_zd_X12_goesByPart_w2 ++ (zw_zd_X12_goesByPart_w3 ++ (zw_zd_X12_goesByPart_w4 ++ (zw_zd_X12_goesByPart_w5 ++ (zw_zd_X12_goesByPart_w6 ++ (zw_zd_X12_goesByPart_w7 ++ (zw_zd_X12_goesByPart_w8)))))))))) (show GoodIn zw_zd_X12_run (.code yX12_goesByPart cX12_goesByPart 10 none :: (zw_zd_X12_goesByPart_w0 ++ (zw_zd_X12_goesByPart_w1 ++ (zw_zd_X12_goesByPart_w2 ++ (zw_zd_X12_goesByPart_w3 ++ (zw_zd_X12_goesByPart_w4 ++ (zw_zd_X12_goesByPart_w5 ++ (zw_zd_X12_goesByPart_w6 ++ (zw_zd_X12_goesByPart_w7 ++ (zw_zd_X12_goesByPart_w8)))))))))) from goodIn_app zg_zd_X12_run_zd_X12_goesByPart_291_c (goodIn_app zg_zd_X12_run_zd_X12_goesByPart_291_0 (goodIn_app zg_zd_X12_run_zd_X12_goesByPart_291_1 (goodIn_app zg_zd_X12_run_zd_X12_goesByPart_291_2 (goodIn_app zg_zd_X12_run_zd_X12_goesByPart_291_3 (goodIn_app zg_zd_X12_run_zd_X12_goesByPart_291_4 (goodIn_app zg_zd_X12_run_zd_X12_goesByPart_291_5 (goodIn_app zg_zd_X12_run_zd_X12_goesByPart_291_6 (goodIn_app zg_zd_X12_run_zd_X12_goesByPart_291_7 (zg_zd_X12_run_zd_X12_goesByPart_291_8)))))))))) (fun w h => ⟨(fun _ h => List.mem_cons_of_mem _ (List.mem_append_right _ h)) w h, good_of_word (List.all_eq_true.mp zgw_X12 w h)⟩))
set_option maxRecDepth 100000 in
theorem zg_zd_X12_run_zd_X12_goes_288_a : GoodIn zw_zd_X12_run [.methodLink RX12 288 yX12_goes, .instanceMethod yX12_goes, .selects RX12 yX12_goes yX12_goes, .initialized RX12] := goodIn_r _ [162, 163, 164, 6] rfl (by decide +kernel)
set_option maxRecDepth 100000 in
theorem zg_zd_X12_run_zd_X12_goes_288_c : GoodIn zw_zd_X12_run [.code yX12_goes cX12_goes 10 none] := goodIn_r _ [154] rfl (by decide +kernel)
set_option maxRecDepth 100000 in
theorem zg_zd_X12_run_zd_X12_goes_288_0 : GoodIn zw_zd_X12_run zw_zd_X12_goes_w0 := goodIn_r _ [119, 11, 120, 20, 12, 121, 122, 123, 6, 40, 95, 96, 97, 21, 41, 13] rfl (by decide +kernel)
set_option maxRecDepth 100000 in
theorem zg_zd_X12_run_zd_X12_goes_288_1 : GoodIn zw_zd_X12_run zw_zd_X12_goes_w1 := goodIn_r _ [42, 43, 44, 30, 19, 22, 23, 24, 25, 26, 27, 28, 29, 31, 32, 33] rfl (by decide +kernel)
set_option maxRecDepth 100000 in
theorem zg_zd_X12_run_zd_X12_goes_288_2 : GoodIn zw_zd_X12_run zw_zd_X12_goes_w2 := goodIn_r _ [34, 35, 36, 37, 38, 39, 15, 14, 45, 46, 47, 48, 49, 50, 51, 52] rfl (by decide +kernel)
set_option maxRecDepth 100000 in
theorem zg_zd_X12_run_zd_X12_goes_288_3 : GoodIn zw_zd_X12_run zw_zd_X12_goes_w3 := goodIn_r _ [53, 54, 55, 56, 57, 58, 59, 60, 61, 62, 63, 64, 65, 66, 67, 68] rfl (by decide +kernel)
set_option maxRecDepth 100000 in
theorem zg_zd_X12_run_zd_X12_goes_288_4 : GoodIn zw_zd_X12_run zw_zd_X12_goes_w4 := goodIn_r _ [69, 70, 71, 72, 73, 74, 75, 76, 77, 78, 79, 80, 81, 82, 83, 84] rfl (by decide +kernel)
set_option maxRecDepth 100000 in
theorem zg_zd_X12_run_zd_X12_goes_288_5 : GoodIn zw_zd_X12_run zw_zd_X12_goes_w5 := goodIn_r _ [85, 86, 87, 88, 89, 90, 91, 92, 93, 94, 98, 99, 100, 101, 102, 103] rfl (by decide +kernel)
set_option maxRecDepth 100000 in
theorem zg_zd_X12_run_zd_X12_goes_288_6 : GoodIn zw_zd_X12_run zw_zd_X12_goes_w6 := goodIn_r _ [104, 105, 106, 107, 108, 109, 110, 111, 112, 113, 114, 115, 116, 117, 118, 124] rfl (by decide +kernel)
set_option maxRecDepth 100000 in
theorem zg_zd_X12_run_zd_X12_goes_288_7 : GoodIn zw_zd_X12_run zw_zd_X12_goes_w7 := goodIn_r _ [125, 126, 128, 17, 129, 130, 131, 132, 133, 134, 135, 136, 137, 138, 3, 4] rfl (by decide +kernel)
set_option maxRecDepth 100000 in
theorem zg_zd_X12_run_zd_X12_goes_288_8 : GoodIn zw_zd_X12_run zw_zd_X12_goes_w8 := goodIn_r _ [5, 139, 140, 141, 155, 156, 157, 158, 159, 160, 161] rfl (by decide +kernel)
theorem zg_zd_X12_run_zd_X12_goes_288 : GoodIn zw_zd_X12_run (wsV RX12 288 RX12 yX12_goes zw_zd_X12_goes) := goodIn_app zg_zd_X12_run_zd_X12_goes_288_a (goodIn_ca (a := (zw_zd_X12_goes_w0 ++ (zw_zd_X12_goes_w1 ++ (zw_zd_X12_goes_w2 ++ (zw_zd_X12_goes_w3 ++ (zw_zd_X12_goes_w4 ++ (zw_zd_X12_goes_w5 ++ (zw_zd_X12_goes_w6 ++ (zw_zd_X12_goes_w7 ++ (zw_zd_X12_goes_w8)))))))))) (show GoodIn zw_zd_X12_run (.code yX12_goes cX12_goes 10 none :: (zw_zd_X12_goes_w0 ++ (zw_zd_X12_goes_w1 ++ (zw_zd_X12_goes_w2 ++ (zw_zd_X12_goes_w3 ++ (zw_zd_X12_goes_w4 ++ (zw_zd_X12_goes_w5 ++ (zw_zd_X12_goes_w6 ++ (zw_zd_X12_goes_w7 ++ (zw_zd_X12_goes_w8)))))))))) from goodIn_app zg_zd_X12_run_zd_X12_goes_288_c (goodIn_app zg_zd_X12_run_zd_X12_goes_288_0 (goodIn_app zg_zd_X12_run_zd_X12_goes_288_1 (goodIn_app zg_zd_X12_run_zd_X12_goes_288_2 (goodIn_app zg_zd_X12_run_zd_X12_goes_288_3 (goodIn_app zg_zd_X12_run_zd_X12_goes_288_4 (goodIn_app zg_zd_X12_run_zd_X12_goes_288_5 (goodIn_app zg_zd_X12_run_zd_X12_goes_288_6 (goodIn_app zg_zd_X12_run_zd_X12_goes_288_7 (zg_zd_X12_run_zd_X12_goes_288_8)))))))))) (fun w h => ⟨(fun _ h => List.mem_cons_of_mem _ (List.mem_append_right _ h)) w h, good_of_word (List.all_eq_true.mp zgw_X12 w h)⟩))
set_option maxHeartbeats 16000000 in
set_option maxRecDepth 100000 in
theorem zd_X12_run (l : Launch) (D : va_G) (cI cZ cP cF : Nat) (h0 : Nat) (q : Nat → Nat) (S : MST) (a1 : Int32) (a2 : Int32) (a3 : Int32) (a4 : Int32) (sz : Nat) (Post : MST → Int32 → Prop) (h : wp_X12_run S a1 a2 a3 a4 Post) : Met l yX12_run zw_zd_X12_run ({ frames := 8, cells := 0, slots := 0, locals := 194 }) (va_Pc [.ref h0, .int a1, .int a2, .int a3, .int a4] (fun U => U.heap.size = sz ∧ va_P D vwCl (mW cI cZ h0 q S) U.heap ∧ zE D cI cZ cP cF U ∧ va_D (fun _ => True) (mW cI cZ h0 q S))) (va_Qi (fun r S' => Post S' r) (fun (S' : MST) t => va_P D vwCl (mW cI cZ h0 q S') t.heap ∧ va_D (va_A (mW cI cZ h0 q S) sz) (mW cI cZ h0 q S')) (va_A (mW cI cZ h0 q S) sz)) 0 0 (va_A (mW cI cZ h0 q S) sz) := by
  unfold wp_X12_run at h
  refine Met.ofW (cc := cX12_run) (maxL := 6) (ret := (some .int)) (by decide) rfl ?_
  intro p e s m args below meth c s₁ B hml hv
  obtain ⟨rfl, hsz, hP, hE, hD0⟩ := hv
  have hx := B.exec
  have hb := B.bytes
  have hr := B.returns
  have hts := atoms_spec (ws := zw_zd_X12_run) B.pre
  have hown : s.vm.findClass RX12 = some m.cls := findClass_of_methodNamed B.named
  have hlocks := B.notSynchronized
  have hK := hE.k
  subst hsz
  have hD := hD0.self (sz := s.heap.size)
  generalize hAe : va_A (mW cI cZ h0 q S) s.heap.size = A at hD ⊢
  have hA : ∀ q : Nat, s.heap.size ≤ q → A q := fun q h => by rw [← hAe]; exact Or.inr h
  have hl := lv_entry ([.ref h0, .int a1, .int a2, .int a3, .int a4]) (n := 6) (Nat.le_of_ble_eq_true rfl)
  rw [lg_entry_eq]
  generalize (lg_sl ([.ref h0, .int a1, .int a2, .int a3, .int a4]) ++ List.replicate (6 - (lg_sl ([.ref h0, .int a1, .int a2, .int a3, .int a4])).length) Slot.unset).toArray = ls at hl ⊢
  have hl : lv_has ls 6 [(0, .ref h0), (1, .int a1), (2, .int a2), (3, .int a3), (4, .int a4)] := hl
  have key : ∀ (H : Heap) (locs : List Loc), va_P D vwCl (mW cI cZ h0 q S) H → va_S A s.heap H locs → W p l e (headSpec zw_zd_X12_run ({ frames := 8, cells := 0, slots := 0, locals := 194 })).room s m ([.ref h0, .int a1, .int a2, .int a3, .int a4] : List Value).toArray below meth c H locs 0 0 (MQ below (va_Qi (fun r S' => Post S' r) (fun (S' : MST) t => va_P D vwCl (mW cI cZ h0 q S') t.heap ∧ va_D A (mW cI cZ h0 q S')) A) ([.ref h0, .int a1, .int a2, .int a3, .int a4] : List Value).toArray s 0 0 A) (F0 m 0 ls []) := by
    intro H locs hP hS
    refine lv_aload_n hx hb dX12_run_0 rfl (lv_at hl 0 rfl) ?_
    refine lv_iload_n hx hb dX12_run_1 rfl (lv_at hl 1 rfl) ?_
    refine vp_callSi (va_Run.run (va_runV (As := [.int a1]) (rest := []) ⟨hx, hb, hml, hown, hts⟩ (zd_X12_isMethod l D cI cZ cP cF h0 q S a1  _ h) (cwV 1 hts zg_zd_X12_run_zd_X12_isMethod_144 rfl rfl rfl (by decide +kernel) ⟨Nat.le_of_ble_eq_true rfl, Nat.le_of_ble_eq_true rfl⟩) ⟨zBR, va_recv hK hP (ci := 12) (q0 := 0) rfl rfl, fun U hU hW => ⟨rfl, by rw [hU]; exact hP, hE.warm hW⟩⟩ rfl rfl hl.1 rfl (lv_room (Nat.le_of_ble_eq_true rfl)) dX12_run_2 ⟨Nat.le_of_ble_eq_true rfl, Nat.le_of_ble_eq_true rfl⟩)) (fun r1 h => ?_)
    refine lv_if_ne (tgt := 11) hx hb dX12_run_5 (by decide) (fun c_2 => ?_) (fun c_2 => ?_)
    · have h := h.1 c_2
      refine lv_iconst (v := 0) hx hb dX12_run_11 (by decide) ?_
      refine lv_istore (lv' := [(5, .int 0), (0, .ref h0), (1, .int a1), (2, .int a2), (3, .int a3), (4, .int a4)]) hx hb dX12_run_12 hl (by decide) rfl (fun ls hl => ?_)
      have EX_14_42 : ∀ (S_42 : MST) (x42_1 : Int32) (x42_2 : Int32) (x42_3 : Int32) (x42_4 : Int32) (H : Heap) (locs : List Loc) (ls : Array Slot), (((¬ (((S_42 48 0) : Int32) = 80)) → (∀ S4 : MST, S4 = ms S_42 48 (fun _ => (S_42 48 0) + 1) → (∀ S5 : MST, S5 = ms S4 43 (fun _ => 0) → (∀ S6 : MST, S6 = ms S5 37 (fun _ => 0) → (∀ S7 : MST, S7 = ms S6 44 (fun _ => 0) → (∀ S8 : MST, S8 = ms S7 45 (fun _ => 0) → (∀ S9 : MST, S9 = ms S8 46 (fun _ => 0) → (∀ S10 : MST, S10 = ms S9 47 (fun _ => 0) → (∀ S11 : MST, S11 = ms S10 49 (fun _ => 0) → (∃ n_102, wl_X12_run_102 (fun S_122 x122_1 x122_2 x122_3 x122_4 => vp_in 0 3 ∧ (∀ S12 : MST, S12 = ms S_122 51 (upd (S_122 51) (0 : Int32).toNatClampNeg x122_2) → (vp_in 1 3 ∧ (∀ S13 : MST, S13 = ms S12 51 (upd (S12 51) (1 : Int32).toNatClampNeg x122_3) → (vp_in 2 3 ∧ (∀ S14 : MST, S14 = ms S13 51 (upd (S13 51) (2 : Int32).toNatClampNeg x122_4) → (wp_X12_call_f S14 x122_1 0 0 (fun S15 => ∃ n_155, wl_X12_run_155 (fun S_190 => ((¬ (((S_190 43 0) : Int32) = 2)) → (Post S_190 (S_190 43 0))) ∧ ((((S_190 43 0) : Int32) = 2) → (Post S_190 0))) Post n_155 S15 )))))))) Post n_102 S11 x42_1 x42_2 x42_3 x42_4 0)))))))))) ∧ ((((S_42 48 0) : Int32) = 80) → (Post S_42 (-4)))) → va_P D vwCl (mW cI cZ h0 q S_42) H → va_D A (mW cI cZ h0 q S_42) → va_S A s.heap H locs → lv_has ls 6 [(0, .ref h0), (1, .int x42_1), (2, .int x42_2), (3, .int x42_3), (4, .int x42_4)] → W p l e (headSpec zw_zd_X12_run ({ frames := 8, cells := 0, slots := 0, locals := 194 })).room s m ([.ref h0, .int a1, .int a2, .int a3, .int a4] : List Value).toArray below meth c H locs 0 0 (MQ below (va_Qi (fun r S' => Post S' r) (fun (S' : MST) t => va_P D vwCl (mW cI cZ h0 q S') t.heap ∧ va_D A (mW cI cZ h0 q S')) A) ([.ref h0, .int a1, .int a2, .int a3, .int a4] : List Value).toArray s 0 0 A) (F0 m 42 ls []) := by
        intro S_42 x42_1 x42_2 x42_3 x42_4 H locs ls h hP hD hS hl
        refine lv_aload_n hx hb dX12_run_42 rfl (lv_at hl 0 rfl) ?_
        refine va_get (D := D) (ci := 12) (v := .int (S_42 48 0)) (C := RX12) (T := TX12) (N := 52) hx hb hts (fun _ h => List.mem_cons_of_mem _ (List.mem_append_right _ h)) hown hK hP 0 rfl rfl 48 (by decide) (hts (.fieldLink RX12 285 "TemplateForgeModel" "runs" "I") (List.mem_of_getElem? (i := 10) rfl)) (fun _ h9 => h9) rfl dX12_run_43 ?_
        refine lv_bipush (v := 80) hx hb dX12_run_46 (by decide) ?_
        refine lv_icmp_ne (tgt := 54) hx hb dX12_run_48 (by decide) (fun c_3 => ?_) (fun c_3 => ?_)
        · have h := h.1 c_3
          refine lv_aload_n hx hb dX12_run_54 rfl (lv_at hl 0 rfl) ?_
          refine lv_dup hx hb dX12_run_55 rfl ?_
          refine va_get (D := D) (ci := 12) (v := .int (S_42 48 0)) (C := RX12) (T := TX12) (N := 52) hx hb hts (fun _ h => List.mem_cons_of_mem _ (List.mem_append_right _ h)) hown hK hP 0 rfl rfl 48 (by decide) (hts (.fieldLink RX12 285 "TemplateForgeModel" "runs" "I") (List.mem_of_getElem? (i := 10) rfl)) (fun _ h9 => h9) rfl dX12_run_56 ?_
          refine lv_iconst (v := 1) hx hb dX12_run_59 (by decide) ?_
          refine lv_iadd hx hb dX12_run_60 ?_
          refine va_put (D := D) (ci := 12) (v := .int ((S_42 48 0) + 1)) (ty := .int) (C := RX12) (T := TX12) (N := 52) hx hb hts (fun _ h => List.mem_cons_of_mem _ (List.mem_append_right _ h)) tyX12 tyX12_ok nmX12 hown hK hP hD hS 0 rfl rfl 48 (by decide) (hts (.fieldLink RX12 285 "TemplateForgeModel" "runs" "I") (List.mem_of_getElem? (i := 10) rfl)) (fun _ h9 => h9) rfl (by decide +kernel) rfl rfl (Nat.le_of_ble_eq_true rfl) dX12_run_61 (fun H locs hP hD hS => ?_)
          obtain ⟨S4, eS4⟩ : ∃ z, z = ms S_42 48 (fun _ => (S_42 48 0) + 1) := ⟨_, rfl⟩
          have hP : va_P D vwCl (mW cI cZ h0 q S4) H := by rw [eS4]; exact hP
          have hD : va_D A (mW cI cZ h0 q S4) := by rw [eS4]; exact hD
          have h := h S4 eS4
          refine lv_aload_n hx hb dX12_run_64 rfl (lv_at hl 0 rfl) ?_
          refine lv_iconst (v := 0) hx hb dX12_run_65 (by decide) ?_
          refine va_put (D := D) (ci := 12) (v := .int 0) (ty := .int) (C := RX12) (T := TX12) (N := 52) hx hb hts (fun _ h => List.mem_cons_of_mem _ (List.mem_append_right _ h)) tyX12 tyX12_ok nmX12 hown hK hP hD hS 0 rfl rfl 43 (by decide) (hts (.fieldLink RX12 233 "TemplateForgeModel" "outcome" "I") (List.mem_of_getElem? (i := 11) rfl)) (fun _ h9 => h9) rfl (by decide +kernel) rfl rfl (Nat.le_of_ble_eq_true rfl) dX12_run_66 (fun H locs hP hD hS => ?_)
          obtain ⟨S5, eS5⟩ : ∃ z, z = ms S4 43 (fun _ => 0) := ⟨_, rfl⟩
          have hP : va_P D vwCl (mW cI cZ h0 q S5) H := by rw [eS5]; exact hP
          have hD : va_D A (mW cI cZ h0 q S5) := by rw [eS5]; exact hD
          have h := h S5 eS5
          refine lv_aload_n hx hb dX12_run_69 rfl (lv_at hl 0 rfl) ?_
          refine lv_iconst (v := 0) hx hb dX12_run_70 (by decide) ?_
          refine va_put (D := D) (ci := 12) (v := .int 0) (ty := .int) (C := RX12) (T := TX12) (N := 52) hx hb hts (fun _ h => List.mem_cons_of_mem _ (List.mem_append_right _ h)) tyX12 tyX12_ok nmX12 hown hK hP hD hS 0 rfl rfl 37 (by decide) (hts (.fieldLink RX12 236 "TemplateForgeModel" "open" "I") (List.mem_of_getElem? (i := 12) rfl)) (fun _ h9 => h9) rfl (by decide +kernel) rfl rfl (Nat.le_of_ble_eq_true rfl) dX12_run_71 (fun H locs hP hD hS => ?_)
          obtain ⟨S6, eS6⟩ : ∃ z, z = ms S5 37 (fun _ => 0) := ⟨_, rfl⟩
          have hP : va_P D vwCl (mW cI cZ h0 q S6) H := by rw [eS6]; exact hP
          have hD : va_D A (mW cI cZ h0 q S6) := by rw [eS6]; exact hD
          have h := h S6 eS6
          refine lv_aload_n hx hb dX12_run_74 rfl (lv_at hl 0 rfl) ?_
          refine lv_iconst (v := 0) hx hb dX12_run_75 (by decide) ?_
          refine va_put (D := D) (ci := 12) (v := .int 0) (ty := .int) (C := RX12) (T := TX12) (N := 52) hx hb hts (fun _ h => List.mem_cons_of_mem _ (List.mem_append_right _ h)) tyX12 tyX12_ok nmX12 hown hK hP hD hS 0 rfl rfl 44 (by decide) (hts (.fieldLink RX12 230 "TemplateForgeModel" "steps" "I") (List.mem_of_getElem? (i := 13) rfl)) (fun _ h9 => h9) rfl (by decide +kernel) rfl rfl (Nat.le_of_ble_eq_true rfl) dX12_run_76 (fun H locs hP hD hS => ?_)
          obtain ⟨S7, eS7⟩ : ∃ z, z = ms S6 44 (fun _ => 0) := ⟨_, rfl⟩
          have hP : va_P D vwCl (mW cI cZ h0 q S7) H := by rw [eS7]; exact hP
          have hD : va_D A (mW cI cZ h0 q S7) := by rw [eS7]; exact hD
          have h := h S7 eS7
          refine lv_aload_n hx hb dX12_run_79 rfl (lv_at hl 0 rfl) ?_
          refine lv_iconst (v := 0) hx hb dX12_run_80 (by decide) ?_
          refine va_put (D := D) (ci := 12) (v := .int 0) (ty := .int) (C := RX12) (T := TX12) (N := 52) hx hb hts (fun _ h => List.mem_cons_of_mem _ (List.mem_append_right _ h)) tyX12 tyX12_ok nmX12 hown hK hP hD hS 0 rfl rfl 45 (by decide) (hts (.fieldLink RX12 246 "TemplateForgeModel" "calls" "I") (List.mem_of_getElem? (i := 14) rfl)) (fun _ h9 => h9) rfl (by decide +kernel) rfl rfl (Nat.le_of_ble_eq_true rfl) dX12_run_81 (fun H locs hP hD hS => ?_)
          obtain ⟨S8, eS8⟩ : ∃ z, z = ms S7 45 (fun _ => 0) := ⟨_, rfl⟩
          have hP : va_P D vwCl (mW cI cZ h0 q S8) H := by rw [eS8]; exact hP
          have hD : va_D A (mW cI cZ h0 q S8) := by rw [eS8]; exact hD
          have h := h S8 eS8
          refine lv_aload_n hx hb dX12_run_84 rfl (lv_at hl 0 rfl) ?_
          refine lv_iconst (v := 0) hx hb dX12_run_85 (by decide) ?_
          refine va_put (D := D) (ci := 12) (v := .int 0) (ty := .int) (C := RX12) (T := TX12) (N := 52) hx hb hts (fun _ h => List.mem_cons_of_mem _ (List.mem_append_right _ h)) tyX12 tyX12_ok nmX12 hown hK hP hD hS 0 rfl rfl 46 (by decide) (hts (.fieldLink RX12 252 "TemplateForgeModel" "callsByCode" "I") (List.mem_of_getElem? (i := 15) rfl)) (fun _ h9 => h9) rfl (by decide +kernel) rfl rfl (Nat.le_of_ble_eq_true rfl) dX12_run_86 (fun H locs hP hD hS => ?_)
          obtain ⟨S9, eS9⟩ : ∃ z, z = ms S8 46 (fun _ => 0) := ⟨_, rfl⟩
          have hP : va_P D vwCl (mW cI cZ h0 q S9) H := by rw [eS9]; exact hP
          have hD : va_D A (mW cI cZ h0 q S9) := by rw [eS9]; exact hD
          have h := h S9 eS9
          refine lv_aload_n hx hb dX12_run_89 rfl (lv_at hl 0 rfl) ?_
          refine lv_iconst (v := 0) hx hb dX12_run_90 (by decide) ?_
          refine va_put (D := D) (ci := 12) (v := .int 0) (ty := .int) (C := RX12) (T := TX12) (N := 52) hx hb hts (fun _ h => List.mem_cons_of_mem _ (List.mem_append_right _ h)) tyX12 tyX12_ok nmX12 hown hK hP hD hS 0 rfl rfl 47 (by decide) (hts (.fieldLink RX12 275 "TemplateForgeModel" "failed" "I") (List.mem_of_getElem? (i := 16) rfl)) (fun _ h9 => h9) rfl (by decide +kernel) rfl rfl (Nat.le_of_ble_eq_true rfl) dX12_run_91 (fun H locs hP hD hS => ?_)
          obtain ⟨S10, eS10⟩ : ∃ z, z = ms S9 47 (fun _ => 0) := ⟨_, rfl⟩
          have hP : va_P D vwCl (mW cI cZ h0 q S10) H := by rw [eS10]; exact hP
          have hD : va_D A (mW cI cZ h0 q S10) := by rw [eS10]; exact hD
          have h := h S10 eS10
          refine lv_aload_n hx hb dX12_run_94 rfl (lv_at hl 0 rfl) ?_
          refine lv_iconst (v := 0) hx hb dX12_run_95 (by decide) ?_
          refine va_put (D := D) (ci := 12) (v := .int 0) (ty := .int) (C := RX12) (T := TX12) (N := 52) hx hb hts (fun _ h => List.mem_cons_of_mem _ (List.mem_append_right _ h)) tyX12 tyX12_ok nmX12 hown hK hP hD hS 0 rfl rfl 49 (by decide) (hts (.fieldLink RX12 259 "TemplateForgeModel" "answer" "I") (List.mem_of_getElem? (i := 17) rfl)) (fun _ h9 => h9) rfl (by decide +kernel) rfl rfl (Nat.le_of_ble_eq_true rfl) dX12_run_96 (fun H locs hP hD hS => ?_)
          obtain ⟨S11, eS11⟩ : ∃ z, z = ms S10 49 (fun _ => 0) := ⟨_, rfl⟩
          have hP : va_P D vwCl (mW cI cZ h0 q S11) H := by rw [eS11]; exact hP
          have hD : va_D A (mW cI cZ h0 q S11) := by rw [eS11]; exact hD
          have h := h S11 eS11
          refine lv_iconst (v := 0) hx hb dX12_run_99 (by decide) ?_
          refine lv_istore (lv' := [(5, .int 0), (0, .ref h0), (1, .int x42_1), (2, .int x42_2), (3, .int x42_3), (4, .int x42_4)]) hx hb dX12_run_100 hl (by decide) rfl (fun ls hl => ?_)
          have EX_102_122 : ∀ (S_122 : MST) (x122_1 : Int32) (x122_2 : Int32) (x122_3 : Int32) (x122_4 : Int32) (H : Heap) (locs : List Loc) (ls : Array Slot), (vp_in 0 3 ∧ (∀ S12 : MST, S12 = ms S_122 51 (upd (S_122 51) (0 : Int32).toNatClampNeg x122_2) → (vp_in 1 3 ∧ (∀ S13 : MST, S13 = ms S12 51 (upd (S12 51) (1 : Int32).toNatClampNeg x122_3) → (vp_in 2 3 ∧ (∀ S14 : MST, S14 = ms S13 51 (upd (S13 51) (2 : Int32).toNatClampNeg x122_4) → (wp_X12_call_f S14 x122_1 0 0 (fun S15 => ∃ n_155, wl_X12_run_155 (fun S_190 => ((¬ (((S_190 43 0) : Int32) = 2)) → (Post S_190 (S_190 43 0))) ∧ ((((S_190 43 0) : Int32) = 2) → (Post S_190 0))) Post n_155 S15 )))))))) → va_P D vwCl (mW cI cZ h0 q S_122) H → va_D A (mW cI cZ h0 q S_122) → va_S A s.heap H locs → lv_has ls 6 [(0, .ref h0), (1, .int x122_1), (2, .int x122_2), (3, .int x122_3), (4, .int x122_4)] → W p l e (headSpec zw_zd_X12_run ({ frames := 8, cells := 0, slots := 0, locals := 194 })).room s m ([.ref h0, .int a1, .int a2, .int a3, .int a4] : List Value).toArray below meth c H locs 0 0 (MQ below (va_Qi (fun r S' => Post S' r) (fun (S' : MST) t => va_P D vwCl (mW cI cZ h0 q S') t.heap ∧ va_D A (mW cI cZ h0 q S')) A) ([.ref h0, .int a1, .int a2, .int a3, .int a4] : List Value).toArray s 0 0 A) (F0 m 122 ls []) := by
            intro S_122 x122_1 x122_2 x122_3 x122_4 H locs ls h hP hD hS hl
            refine lv_aload_n hx hb dX12_run_122 rfl (lv_at hl 0 rfl) ?_
            refine va_get (D := D) (ci := 12) (v := .ref (q 51)) (C := RX12) (T := TX12) (N := 52) hx hb hts (fun _ h => List.mem_cons_of_mem _ (List.mem_append_right _ h)) hown hK hP 0 rfl rfl 51 (by decide) (hts (.fieldLink RX12 129 "TemplateForgeModel" "first" "[I") (List.mem_of_getElem? (i := 18) rfl)) (fun _ h9 => h9) rfl dX12_run_123 ?_
            refine lv_iconst (v := 0) hx hb dX12_run_126 (by decide) ?_
            refine lv_iload_n hx hb dX12_run_127 rfl (lv_at hl 2 rfl) ?_
            have hin_12 := h.1
            have h := h.2
            refine va_iast hx hb hK hP hD hS 40 0 rfl rfl hin_12 dX12_run_128 (fun H locs hP hD hS => ?_)
            obtain ⟨S12, eS12⟩ : ∃ z, z = ms S_122 51 (upd (S_122 51) (0 : Int32).toNatClampNeg x122_2) := ⟨_, rfl⟩
            have hP : va_P D vwCl (mW cI cZ h0 q S12) H := by rw [eS12]; exact hP
            have hD : va_D A (mW cI cZ h0 q S12) := by rw [eS12]; exact hD
            have h := h S12 eS12
            refine lv_aload_n hx hb dX12_run_129 rfl (lv_at hl 0 rfl) ?_
            refine va_get (D := D) (ci := 12) (v := .ref (q 51)) (C := RX12) (T := TX12) (N := 52) hx hb hts (fun _ h => List.mem_cons_of_mem _ (List.mem_append_right _ h)) hown hK hP 0 rfl rfl 51 (by decide) (hts (.fieldLink RX12 129 "TemplateForgeModel" "first" "[I") (List.mem_of_getElem? (i := 18) rfl)) (fun _ h9 => h9) rfl dX12_run_130 ?_
            refine lv_iconst (v := 1) hx hb dX12_run_133 (by decide) ?_
            refine lv_iload_n hx hb dX12_run_134 rfl (lv_at hl 3 rfl) ?_
            have hin_13 := h.1
            have h := h.2
            refine va_iast hx hb hK hP hD hS 40 0 rfl rfl hin_13 dX12_run_135 (fun H locs hP hD hS => ?_)
            obtain ⟨S13, eS13⟩ : ∃ z, z = ms S12 51 (upd (S12 51) (1 : Int32).toNatClampNeg x122_3) := ⟨_, rfl⟩
            have hP : va_P D vwCl (mW cI cZ h0 q S13) H := by rw [eS13]; exact hP
            have hD : va_D A (mW cI cZ h0 q S13) := by rw [eS13]; exact hD
            have h := h S13 eS13
            refine lv_aload_n hx hb dX12_run_136 rfl (lv_at hl 0 rfl) ?_
            refine va_get (D := D) (ci := 12) (v := .ref (q 51)) (C := RX12) (T := TX12) (N := 52) hx hb hts (fun _ h => List.mem_cons_of_mem _ (List.mem_append_right _ h)) hown hK hP 0 rfl rfl 51 (by decide) (hts (.fieldLink RX12 129 "TemplateForgeModel" "first" "[I") (List.mem_of_getElem? (i := 18) rfl)) (fun _ h9 => h9) rfl dX12_run_137 ?_
            refine lv_iconst (v := 2) hx hb dX12_run_140 (by decide) ?_
            refine lv_iload hx hb dX12_run_141 (lv_at hl 4 rfl) ?_
            have hin_14 := h.1
            have h := h.2
            refine va_iast hx hb hK hP hD hS 40 0 rfl rfl hin_14 dX12_run_143 (fun H locs hP hD hS => ?_)
            obtain ⟨S14, eS14⟩ : ∃ z, z = ms S13 51 (upd (S13 51) (2 : Int32).toNatClampNeg x122_4) := ⟨_, rfl⟩
            have hP : va_P D vwCl (mW cI cZ h0 q S14) H := by rw [eS14]; exact hP
            have hD : va_D A (mW cI cZ h0 q S14) := by rw [eS14]; exact hD
            have h := h S14 eS14
            refine lv_aload_n hx hb dX12_run_144 rfl (lv_at hl 0 rfl) ?_
            refine lv_iload_n hx hb dX12_run_145 rfl (lv_at hl 1 rfl) ?_
            refine lv_aload_n hx hb dX12_run_146 rfl (lv_at hl 0 rfl) ?_
            refine va_get (D := D) (ci := 12) (v := .ref (q 51)) (C := RX12) (T := TX12) (N := 52) hx hb hts (fun _ h => List.mem_cons_of_mem _ (List.mem_append_right _ h)) hown hK hP 0 rfl rfl 51 (by decide) (hts (.fieldLink RX12 129 "TemplateForgeModel" "first" "[I") (List.mem_of_getElem? (i := 18) rfl)) (fun _ h9 => h9) rfl dX12_run_147 ?_
            refine lv_iconst (v := 0) hx hb dX12_run_150 (by decide) ?_
            refine lv_iconst (v := 0) hx hb dX12_run_151 (by decide) ?_
            have hFc := zm_free hD hS hA
            refine va_callv (va_runV (As := [.int x122_1, .ref (q 51), .int 0, .int 0]) (rest := []) ⟨hx, hb, hml, hown, hts⟩ (zd_X12_call_f l D cI cZ cP cF h0 q S14 x122_1 0 0 H.size _ h) (cwV 4 hts zg_zd_X12_run_zd_X12_call_f_262 rfl rfl rfl (by decide +kernel) ⟨Nat.le_of_ble_eq_true rfl, Nat.le_of_ble_eq_true rfl⟩) ⟨zBW, va_recv hK hP (ci := 12) (q0 := 0) rfl rfl, fun U hU hW => ⟨rfl, by rw [hU], by rw [hU]; exact hP, hE.warm hW, hD.weaken (fun _ _ _ _ => trivial)⟩⟩ rfl rfl hl.1 rfl (lv_room (Nat.le_of_ble_eq_true rfl)) dX12_run_152 ⟨Nat.le_of_ble_eq_true rfl, Nat.le_of_ble_eq_true rfl⟩) hS (fun q _ h => hFc q h) hFc (fun S15 t H locs ht hvm h hB hz1 hk1 hS => ?_)
            obtain ⟨hP, hD1⟩ := hB
            rw [ht] at hP
            have hD := hD1.weaken (fun k q _ hq => hFc q.1 hq)
            have EX_155_190 : ∀ (S_190 : MST) (H : Heap) (locs : List Loc) (ls : Array Slot), (((¬ (((S_190 43 0) : Int32) = 2)) → (Post S_190 (S_190 43 0))) ∧ ((((S_190 43 0) : Int32) = 2) → (Post S_190 0))) → va_P D vwCl (mW cI cZ h0 q S_190) H → va_D A (mW cI cZ h0 q S_190) → va_S A s.heap H locs → lv_has ls 6 [(0, .ref h0)] → W p l e (headSpec zw_zd_X12_run ({ frames := 8, cells := 0, slots := 0, locals := 194 })).room s m ([.ref h0, .int a1, .int a2, .int a3, .int a4] : List Value).toArray below meth c H locs 0 0 (MQ below (va_Qi (fun r S' => Post S' r) (fun (S' : MST) t => va_P D vwCl (mW cI cZ h0 q S') t.heap ∧ va_D A (mW cI cZ h0 q S')) A) ([.ref h0, .int a1, .int a2, .int a3, .int a4] : List Value).toArray s 0 0 A) (F0 m 190 ls []) := by
              intro S_190  H locs ls h hP hD hS hl
              refine lv_aload_n hx hb dX12_run_190 rfl (lv_at hl 0 rfl) ?_
              refine va_get (D := D) (ci := 12) (v := .int (S_190 43 0)) (C := RX12) (T := TX12) (N := 52) hx hb hts (fun _ h => List.mem_cons_of_mem _ (List.mem_append_right _ h)) hown hK hP 0 rfl rfl 43 (by decide) (hts (.fieldLink RX12 233 "TemplateForgeModel" "outcome" "I") (List.mem_of_getElem? (i := 11) rfl)) (fun _ h9 => h9) rfl dX12_run_191 ?_
              refine lv_iconst (v := 2) hx hb dX12_run_194 (by decide) ?_
              refine lv_icmp_ne (tgt := 202) hx hb dX12_run_195 (by decide) (fun c_16 => ?_) (fun c_16 => ?_)
              · have h := h.1 c_16
                refine lv_aload_n hx hb dX12_run_202 rfl (lv_at hl 0 rfl) ?_
                refine va_get (D := D) (ci := 12) (v := .int (S_190 43 0)) (C := RX12) (T := TX12) (N := 52) hx hb hts (fun _ h => List.mem_cons_of_mem _ (List.mem_append_right _ h)) hown hK hP 0 rfl rfl 43 (by decide) (hts (.fieldLink RX12 233 "TemplateForgeModel" "outcome" "I") (List.mem_of_getElem? (i := 11) rfl)) (fun _ h9 => h9) rfl dX12_run_203 ?_
                exact W.iret (v := S_190 43 0) hx hb hr (fun t ht hW => ⟨⟨_, S_190, rfl, h, by rw [ht]; exact hP, hD⟩, hS.F ht⟩) hS.2.2 dX12_run_206
              · have h := h.2 c_16
                refine lv_iconst (v := 0) hx hb dX12_run_198 (by decide) ?_
                refine lv_goto (tgt := 206) hx hb dX12_run_199 (by decide) ?_
                exact W.iret (v := 0) hx hb hr (fun t ht hW => ⟨⟨_, S_190, rfl, h, by rw [ht]; exact hP, hD⟩, hS.F ht⟩) hS.2.2 dX12_run_206
            have LP_155 : ∀ (n_155 : Nat), ∀ (S_155 : MST) (H : Heap) (locs : List Loc) (ls : Array Slot), wl_X12_run_155 (fun S_190 => ((¬ (((S_190 43 0) : Int32) = 2)) → (Post S_190 (S_190 43 0))) ∧ ((((S_190 43 0) : Int32) = 2) → (Post S_190 0))) Post n_155 S_155  → va_P D vwCl (mW cI cZ h0 q S_155) H → va_D A (mW cI cZ h0 q S_155) → va_S A s.heap H locs → lv_has ls 6 [(0, .ref h0)] → W p l e (headSpec zw_zd_X12_run ({ frames := 8, cells := 0, slots := 0, locals := 194 })).room s m ([.ref h0, .int a1, .int a2, .int a3, .int a4] : List Value).toArray below meth c H locs 0 0 (MQ below (va_Qi (fun r S' => Post S' r) (fun (S' : MST) t => va_P D vwCl (mW cI cZ h0 q S') t.heap ∧ va_D A (mW cI cZ h0 q S')) A) ([.ref h0, .int a1, .int a2, .int a3, .int a4] : List Value).toArray s 0 0 A) (F0 m 155 ls []) := by
              intro n_155
              induction n_155 with
              | zero =>
                intro S_155  H locs ls h hP hD hS hl
                exact False.elim h
              | succ n_155 ih_155 =>
                intro S_155  H locs ls h hP hD hS hl
                unfold wl_X12_run_155 at h
                refine lv_aload_n hx hb dX12_run_155 rfl (lv_at hl 0 rfl) ?_
                refine va_get (D := D) (ci := 12) (v := .int (S_155 43 0)) (C := RX12) (T := TX12) (N := 52) hx hb hts (fun _ h => List.mem_cons_of_mem _ (List.mem_append_right _ h)) hown hK hP 0 rfl rfl 43 (by decide) (hts (.fieldLink RX12 233 "TemplateForgeModel" "outcome" "I") (List.mem_of_getElem? (i := 11) rfl)) (fun _ h9 => h9) rfl dX12_run_156 ?_
                refine lv_if_ne (tgt := 190) hx hb dX12_run_159 (by decide) (fun c_17 => ?_) (fun c_17 => ?_)
                · have h := h.1 c_17
                  exact EX_155_190  S_155  H locs _ h hP hD hS (lv_sub hl [0] rfl)
                · have h := h.2 c_17
                  refine lv_aload_n hx hb dX12_run_162 rfl (lv_at hl 0 rfl) ?_
                  refine va_get (D := D) (ci := 12) (v := .ref (q 40)) (C := RX12) (T := TX12) (N := 52) hx hb hts (fun _ h => List.mem_cons_of_mem _ (List.mem_append_right _ h)) hown hK hP 0 rfl rfl 40 (by decide) (hts (.fieldLink RX12 117 "TemplateForgeModel" "frameCode" "[I") (List.mem_of_getElem? (i := 24) rfl)) (fun _ h9 => h9) rfl dX12_run_163 ?_
                  refine lv_aload_n hx hb dX12_run_166 rfl (lv_at hl 0 rfl) ?_
                  refine va_get (D := D) (ci := 12) (v := .int (S_155 37 0)) (C := RX12) (T := TX12) (N := 52) hx hb hts (fun _ h => List.mem_cons_of_mem _ (List.mem_append_right _ h)) hown hK hP 0 rfl rfl 37 (by decide) (hts (.fieldLink RX12 236 "TemplateForgeModel" "open" "I") (List.mem_of_getElem? (i := 12) rfl)) (fun _ h9 => h9) rfl dX12_run_167 ?_
                  refine lv_iconst (v := 1) hx hb dX12_run_170 (by decide) ?_
                  refine lv_isub hx hb dX12_run_171 ?_
                  have hin_18 := h.1
                  have h := h.2
                  refine va_iald hx hb hK hP 36 0 rfl rfl hin_18 dX12_run_172 ?_
                  refine lv_if_ge (tgt := 183) hx hb dX12_run_173 (by decide) (fun c_19 => ?_) (fun c_19 => ?_)
                  · have h := h.1 c_19
                    refine lv_aload_n hx hb dX12_run_183 rfl (lv_at hl 0 rfl) ?_
                    have hFc := zm_free hD hS hA
                    refine va_callv (va_runV (As := []) (rest := []) ⟨hx, hb, hml, hown, hts⟩ (zd_X12_goesByPart l D cI cZ cP cF h0 q S_155  H.size _ h) (cwV 0 hts zg_zd_X12_run_zd_X12_goesByPart_291 rfl rfl rfl (by decide +kernel) ⟨Nat.le_of_ble_eq_true rfl, Nat.le_of_ble_eq_true rfl⟩) ⟨zBW, va_recv hK hP (ci := 12) (q0 := 0) rfl rfl, fun U hU hW => ⟨rfl, by rw [hU], by rw [hU]; exact hP, hE.warm hW, hD.weaken (fun _ _ _ _ => trivial)⟩⟩ rfl rfl hl.1 rfl (lv_room (Nat.le_of_ble_eq_true rfl)) dX12_run_184 ⟨Nat.le_of_ble_eq_true rfl, Nat.le_of_ble_eq_true rfl⟩) hS (fun q _ h => hFc q h) hFc (fun S20 t H locs ht hvm h hB hz1 hk1 hS => ?_)
                    obtain ⟨hP, hD1⟩ := hB
                    rw [ht] at hP
                    have hD := hD1.weaken (fun k q _ hq => hFc q.1 hq)
                    refine lv_goto (tgt := 155) hx hb dX12_run_187 (by decide) ?_
                    exact ih_155  S20  H locs _ h hP hD hS (lv_sub hl [0] rfl)
                  · have h := h.2 c_19
                    refine lv_aload_n hx hb dX12_run_176 rfl (lv_at hl 0 rfl) ?_
                    have hFc := zm_free hD hS hA
                    refine va_callv (va_runV (As := []) (rest := []) ⟨hx, hb, hml, hown, hts⟩ (zd_X12_goes l D cI cZ cP cF h0 q S_155  H.size _ h) (cwV 0 hts zg_zd_X12_run_zd_X12_goes_288 rfl rfl rfl (by decide +kernel) ⟨Nat.le_of_ble_eq_true rfl, Nat.le_of_ble_eq_true rfl⟩) ⟨zBW, va_recv hK hP (ci := 12) (q0 := 0) rfl rfl, fun U hU hW => ⟨rfl, by rw [hU], by rw [hU]; exact hP, hE.warm hW, hD.weaken (fun _ _ _ _ => trivial)⟩⟩ rfl rfl hl.1 rfl (lv_room (Nat.le_of_ble_eq_true rfl)) dX12_run_177 ⟨Nat.le_of_ble_eq_true rfl, Nat.le_of_ble_eq_true rfl⟩) hS (fun q _ h => hFc q h) hFc (fun S21 t H locs ht hvm h hB hz1 hk1 hS => ?_)
                    obtain ⟨hP, hD1⟩ := hB
                    rw [ht] at hP
                    have hD := hD1.weaken (fun k q _ hq => hFc q.1 hq)
                    refine lv_goto (tgt := 155) hx hb dX12_run_180 (by decide) ?_
                    exact ih_155  S21  H locs _ h hP hD hS (lv_sub hl [0] rfl)
            obtain ⟨n_155, h⟩ := h
            exact LP_155 n_155 S15  H locs _ h hP hD hS (lv_sub hl [0] rfl)
          have LP_102 : ∀ (n_102 : Nat), ∀ (S_102 : MST) (x102_1 : Int32) (x102_2 : Int32) (x102_3 : Int32) (x102_4 : Int32) (x102_5 : Int32) (H : Heap) (locs : List Loc) (ls : Array Slot), wl_X12_run_102 (fun S_122 x122_1 x122_2 x122_3 x122_4 => vp_in 0 3 ∧ (∀ S12 : MST, S12 = ms S_122 51 (upd (S_122 51) (0 : Int32).toNatClampNeg x122_2) → (vp_in 1 3 ∧ (∀ S13 : MST, S13 = ms S12 51 (upd (S12 51) (1 : Int32).toNatClampNeg x122_3) → (vp_in 2 3 ∧ (∀ S14 : MST, S14 = ms S13 51 (upd (S13 51) (2 : Int32).toNatClampNeg x122_4) → (wp_X12_call_f S14 x122_1 0 0 (fun S15 => ∃ n_155, wl_X12_run_155 (fun S_190 => ((¬ (((S_190 43 0) : Int32) = 2)) → (Post S_190 (S_190 43 0))) ∧ ((((S_190 43 0) : Int32) = 2) → (Post S_190 0))) Post n_155 S15 )))))))) Post n_102 S_102 x102_1 x102_2 x102_3 x102_4 x102_5 → va_P D vwCl (mW cI cZ h0 q S_102) H → va_D A (mW cI cZ h0 q S_102) → va_S A s.heap H locs → lv_has ls 6 [(0, .ref h0), (1, .int x102_1), (2, .int x102_2), (3, .int x102_3), (4, .int x102_4), (5, .int x102_5)] → W p l e (headSpec zw_zd_X12_run ({ frames := 8, cells := 0, slots := 0, locals := 194 })).room s m ([.ref h0, .int a1, .int a2, .int a3, .int a4] : List Value).toArray below meth c H locs 0 0 (MQ below (va_Qi (fun r S' => Post S' r) (fun (S' : MST) t => va_P D vwCl (mW cI cZ h0 q S') t.heap ∧ va_D A (mW cI cZ h0 q S')) A) ([.ref h0, .int a1, .int a2, .int a3, .int a4] : List Value).toArray s 0 0 A) (F0 m 102 ls []) := by
            intro n_102
            induction n_102 with
            | zero =>
              intro S_102 x102_1 x102_2 x102_3 x102_4 x102_5 H locs ls h hP hD hS hl
              exact False.elim h
            | succ n_102 ih_102 =>
              intro S_102 x102_1 x102_2 x102_3 x102_4 x102_5 H locs ls h hP hD hS hl
              unfold wl_X12_run_102 at h
              refine lv_iload hx hb dX12_run_102 (lv_at hl 5 rfl) ?_
              refine lv_iconst (v := 4) hx hb dX12_run_104 (by decide) ?_
              refine lv_icmp_ge (tgt := 122) hx hb dX12_run_105 (by decide) (fun c_22 => ?_) (fun c_22 => ?_)
              · have h := h.1 c_22
                exact EX_102_122  S_102 x102_1 x102_2 x102_3 x102_4 H locs _ h hP hD hS (lv_sub hl [0, 1, 2, 3, 4] rfl)
              · have h := h.2 c_22
                refine lv_aload_n hx hb dX12_run_108 rfl (lv_at hl 0 rfl) ?_
                refine va_get (D := D) (ci := 12) (v := .ref (q 50)) (C := RX12) (T := TX12) (N := 52) hx hb hts (fun _ h => List.mem_cons_of_mem _ (List.mem_append_right _ h)) hown hK hP 0 rfl rfl 50 (by decide) (hts (.fieldLink RX12 126 "TemplateForgeModel" "trap" "[I") (List.mem_of_getElem? (i := 120) rfl)) (fun _ h9 => h9) rfl dX12_run_109 ?_
                refine lv_iload hx hb dX12_run_112 (lv_at hl 5 rfl) ?_
                refine lv_iconst (v := 0) hx hb dX12_run_114 (by decide) ?_
                have hin_23 := h.1
                have h := h.2
                refine va_iast hx hb hK hP hD hS 39 0 rfl rfl hin_23 dX12_run_115 (fun H locs hP hD hS => ?_)
                obtain ⟨S23, eS23⟩ : ∃ z, z = ms S_102 50 (upd (S_102 50) (x102_5 : Int32).toNatClampNeg 0) := ⟨_, rfl⟩
                have hP : va_P D vwCl (mW cI cZ h0 q S23) H := by rw [eS23]; exact hP
                have hD : va_D A (mW cI cZ h0 q S23) := by rw [eS23]; exact hD
                have h := h S23 eS23
                refine lv_iinc (v := x102_5 + 1) (lv' := [(5, .int (x102_5 + 1)), (0, .ref h0), (1, .int x102_1), (2, .int x102_2), (3, .int x102_3), (4, .int x102_4)]) hx hb dX12_run_116 hl (k := 5) rfl rfl (by decide) rfl (fun ls hl => ?_)
                refine lv_goto (tgt := 102) hx hb dX12_run_119 (by decide) ?_
                exact ih_102  S23 x102_1 x102_2 x102_3 x102_4 (x102_5 + 1) H locs _ h hP hD hS (lv_sub hl [1, 2, 3, 4, 5, 0] rfl)
          obtain ⟨n_102, h⟩ := h
          exact LP_102 n_102 S11 x42_1 x42_2 x42_3 x42_4 0 H locs _ h hP hD hS (lv_sub hl [1, 2, 3, 4, 5, 0] rfl)
        · have h := h.2 c_3
          refine lv_bipush (v := (-4)) hx hb dX12_run_51 (by decide) ?_
          exact W.iret (v := (-4)) hx hb hr (fun t ht hW => ⟨⟨_, S_42, rfl, h, by rw [ht]; exact hP, hD⟩, hS.F ht⟩) hS.2.2 dX12_run_53
      have EX_14_33 : ∀ (S_33 : MST) (H : Heap) (locs : List Loc) (ls : Array Slot), (Post S_33 (-3)) → va_P D vwCl (mW cI cZ h0 q S_33) H → va_D A (mW cI cZ h0 q S_33) → va_S A s.heap H locs → lv_has ls 6 [] → W p l e (headSpec zw_zd_X12_run ({ frames := 8, cells := 0, slots := 0, locals := 194 })).room s m ([.ref h0, .int a1, .int a2, .int a3, .int a4] : List Value).toArray below meth c H locs 0 0 (MQ below (va_Qi (fun r S' => Post S' r) (fun (S' : MST) t => va_P D vwCl (mW cI cZ h0 q S') t.heap ∧ va_D A (mW cI cZ h0 q S')) A) ([.ref h0, .int a1, .int a2, .int a3, .int a4] : List Value).toArray s 0 0 A) (F0 m 33 ls []) := by
        intro S_33  H locs ls h hP hD hS hl
        refine lv_bipush (v := (-3)) hx hb dX12_run_33 (by decide) ?_
        exact W.iret (v := (-3)) hx hb hr (fun t ht hW => ⟨⟨_, S_33, rfl, h, by rw [ht]; exact hP, hD⟩, hS.F ht⟩) hS.2.2 dX12_run_35
      have LP_14 : ∀ (n_14 : Nat), ∀ (S_14 : MST) (x14_1 : Int32) (x14_2 : Int32) (x14_3 : Int32) (x14_4 : Int32) (x14_5 : Int32) (H : Heap) (locs : List Loc) (ls : Array Slot), wl_X12_run_14 (fun S_42 x42_1 x42_2 x42_3 x42_4 => ((¬ (((S_42 48 0) : Int32) = 80)) → (∀ S4 : MST, S4 = ms S_42 48 (fun _ => (S_42 48 0) + 1) → (∀ S5 : MST, S5 = ms S4 43 (fun _ => 0) → (∀ S6 : MST, S6 = ms S5 37 (fun _ => 0) → (∀ S7 : MST, S7 = ms S6 44 (fun _ => 0) → (∀ S8 : MST, S8 = ms S7 45 (fun _ => 0) → (∀ S9 : MST, S9 = ms S8 46 (fun _ => 0) → (∀ S10 : MST, S10 = ms S9 47 (fun _ => 0) → (∀ S11 : MST, S11 = ms S10 49 (fun _ => 0) → (∃ n_102, wl_X12_run_102 (fun S_122 x122_1 x122_2 x122_3 x122_4 => vp_in 0 3 ∧ (∀ S12 : MST, S12 = ms S_122 51 (upd (S_122 51) (0 : Int32).toNatClampNeg x122_2) → (vp_in 1 3 ∧ (∀ S13 : MST, S13 = ms S12 51 (upd (S12 51) (1 : Int32).toNatClampNeg x122_3) → (vp_in 2 3 ∧ (∀ S14 : MST, S14 = ms S13 51 (upd (S13 51) (2 : Int32).toNatClampNeg x122_4) → (wp_X12_call_f S14 x122_1 0 0 (fun S15 => ∃ n_155, wl_X12_run_155 (fun S_190 => ((¬ (((S_190 43 0) : Int32) = 2)) → (Post S_190 (S_190 43 0))) ∧ ((((S_190 43 0) : Int32) = 2) → (Post S_190 0))) Post n_155 S15 )))))))) Post n_102 S11 x42_1 x42_2 x42_3 x42_4 0)))))))))) ∧ ((((S_42 48 0) : Int32) = 80) → (Post S_42 (-4)))) (fun S_33 => Post S_33 (-3)) Post n_14 S_14 x14_1 x14_2 x14_3 x14_4 x14_5 → va_P D vwCl (mW cI cZ h0 q S_14) H → va_D A (mW cI cZ h0 q S_14) → va_S A s.heap H locs → lv_has ls 6 [(0, .ref h0), (1, .int x14_1), (2, .int x14_2), (3, .int x14_3), (4, .int x14_4), (5, .int x14_5)] → W p l e (headSpec zw_zd_X12_run ({ frames := 8, cells := 0, slots := 0, locals := 194 })).room s m ([.ref h0, .int a1, .int a2, .int a3, .int a4] : List Value).toArray below meth c H locs 0 0 (MQ below (va_Qi (fun r S' => Post S' r) (fun (S' : MST) t => va_P D vwCl (mW cI cZ h0 q S') t.heap ∧ va_D A (mW cI cZ h0 q S')) A) ([.ref h0, .int a1, .int a2, .int a3, .int a4] : List Value).toArray s 0 0 A) (F0 m 14 ls []) := by
        intro n_14
        induction n_14 with
        | zero =>
          intro S_14 x14_1 x14_2 x14_3 x14_4 x14_5 H locs ls h hP hD hS hl
          exact False.elim h
        | succ n_14 ih_14 =>
          intro S_14 x14_1 x14_2 x14_3 x14_4 x14_5 H locs ls h hP hD hS hl
          unfold wl_X12_run_14 at h
          refine lv_iload hx hb dX12_run_14 (lv_at hl 5 rfl) ?_
          refine lv_aload_n hx hb dX12_run_16 rfl (lv_at hl 0 rfl) ?_
          refine va_get (D := D) (ci := 12) (v := .int (S_14 0 0)) (C := RX12) (T := TX12) (N := 52) hx hb hts (fun _ h => List.mem_cons_of_mem _ (List.mem_append_right _ h)) hown hK hP 0 rfl rfl 0 (by decide) (hts (.fieldLink RX12 140 "TemplateForgeModel" "methods" "I") (List.mem_of_getElem? (i := 2) rfl)) (fun _ h9 => h9) rfl dX12_run_17 ?_
          refine lv_icmp_ge (tgt := 42) hx hb dX12_run_20 (by decide) (fun c_24 => ?_) (fun c_24 => ?_)
          · have h := h.1 c_24
            exact EX_14_42  S_14 x14_1 x14_2 x14_3 x14_4 H locs _ h hP hD hS (lv_sub hl [0, 1, 2, 3, 4] rfl)
          · have h := h.2 c_24
            refine lv_aload_n hx hb dX12_run_23 rfl (lv_at hl 0 rfl) ?_
            refine va_get (D := D) (ci := 12) (v := .ref (q 6)) (C := RX12) (T := TX12) (N := 52) hx hb hts (fun _ h => List.mem_cons_of_mem _ (List.mem_append_right _ h)) hown hK hP 0 rfl rfl 6 (by decide) (hts (.fieldLink RX12 25 "TemplateForgeModel" "isLooked" "[Z") (List.mem_of_getElem? (i := 165) rfl)) (fun _ h9 => h9) rfl dX12_run_24 ?_
            refine lv_iload hx hb dX12_run_27 (lv_at hl 5 rfl) ?_
            have hin_25 := h.1
            have h := h.2
            refine va_zald hx hb hK hP 6 1 rfl rfl hin_25 dX12_run_29 ?_
            refine lv_if_ne (tgt := 36) hx hb dX12_run_30 (by decide) (fun c_26 => ?_) (fun c_26 => ?_)
            · have h := h.1 c_26
              refine lv_iinc (v := x14_5 + 1) (lv' := [(5, .int (x14_5 + 1)), (0, .ref h0), (1, .int x14_1), (2, .int x14_2), (3, .int x14_3), (4, .int x14_4)]) hx hb dX12_run_36 hl (k := 5) rfl rfl (by decide) rfl (fun ls hl => ?_)
              refine lv_goto (tgt := 14) hx hb dX12_run_39 (by decide) ?_
              exact ih_14  S_14 x14_1 x14_2 x14_3 x14_4 (x14_5 + 1) H locs _ h hP hD hS (lv_sub hl [1, 2, 3, 4, 5, 0] rfl)
            · have h := h.2 c_26
              exact EX_14_33  S_14  H locs _ h hP hD hS (lv_sub hl [] rfl)
      obtain ⟨n_14, h⟩ := h
      exact LP_14 n_14 S a1 a2 a3 a4 0 H locs _ h hP hD hS (lv_sub hl [1, 2, 3, 4, 5, 0] rfl)
    · have h := h.2 c_2
      refine lv_bipush (v := (-2)) hx hb dX12_run_8 (by decide) ?_
      exact W.iret (v := (-2)) hx hb hr (fun t ht hW => ⟨⟨_, S, rfl, h, by rw [ht]; exact hP, hD⟩, hS.F ht⟩) hS.2.2 dX12_run_10
  exact key _ _ hP va_S.rf
def wp_X12_size (S : MST) (a1 : Int32) (Post : Int32 → Prop) : Prop :=
  wp_X12_in ((a1 : Int32).toInt64) 0 3 (fun r1 => (((r1 : Int32) = 0) → (Post (-2))) ∧ ((¬ ((r1 : Int32) = 0)) → (vp_in a1 4 ∧ (Post (S 13 (a1 : Int32).toNatClampNeg)))))
def zw_zd_X12_size_w0 : List Cond := [.constantLong RX12 132 (3), .code yX12_in cX12_in 6 (some .boolean), .methodLink RX12 134 yX12_in, .static yX12_in, .initialized RX12, .fieldLink RX12 44 "TemplateForgeModel" "sizes" "[I"]
def zw_zd_X12_size : List Cond := .code yX12_size cX12_size 2 (some .int) :: ((zw_zd_X12_size_w0) ++ wsX120)
set_option maxRecDepth 100000 in
theorem zg_zd_X12_size_zd_X12_in_134_a : GoodIn zw_zd_X12_size [.methodLink RX12 134 yX12_in, .static yX12_in, .initialized RX12] := goodIn_r _ [3, 4, 5] rfl (by decide +kernel)
set_option maxRecDepth 100000 in
theorem zg_zd_X12_size_zd_X12_in_134_c : GoodIn zw_zd_X12_size [.code yX12_in cX12_in 6 (some .boolean)] := goodIn_r _ [2] rfl (by decide +kernel)
theorem zg_zd_X12_size_zd_X12_in_134 : GoodIn zw_zd_X12_size (va_wsS RX12 134 yX12_in zw_zd_X12_in) := goodIn_app zg_zd_X12_size_zd_X12_in_134_a (show GoodIn zw_zd_X12_size (.code yX12_in cX12_in 6 (some .boolean) :: (([] : List Cond))) from zg_zd_X12_size_zd_X12_in_134_c)
set_option maxHeartbeats 16000000 in
set_option maxRecDepth 100000 in
theorem zd_X12_size (l : Launch) (D : va_G) (cI cZ cP cF : Nat) (h0 : Nat) (q : Nat → Nat) (S : MST) (a1 : Int32) (Post : Int32 → Prop) (h : wp_X12_size S a1 Post) : Met l yX12_size zw_zd_X12_size ({ frames := 1, cells := 0, slots := 0, locals := 25 }) (va_Pc [.ref h0, .int a1] (fun U => va_P D vwCl (mW cI cZ h0 q S) U.heap ∧ zE D cI cZ cP cF U)) (vp_Si Post) 0 0 (fun _ => False) := by
  unfold wp_X12_size at h
  refine Met.ofW (cc := cX12_size) (maxL := 2) (ret := (some .int)) (by decide) rfl ?_
  intro p e s m args below meth c s₁ B hml hv
  obtain ⟨rfl, hP, hE⟩ := hv
  have hx := B.exec
  have hb := B.bytes
  have hr := B.returns
  have hts := atoms_spec (ws := zw_zd_X12_size) B.pre
  have hown : s.vm.findClass RX12 = some m.cls := findClass_of_methodNamed B.named
  have hlocks := B.notSynchronized
  have hK := hE.k
  have hl := lv_entry ([.ref h0, .int a1]) (n := 2) (Nat.le_of_ble_eq_true rfl)
  rw [lg_entry_eq]
  generalize (lg_sl ([.ref h0, .int a1]) ++ List.replicate (2 - (lg_sl ([.ref h0, .int a1])).length) Slot.unset).toArray = ls at hl ⊢
  have hl : lv_has ls 2 [(0, .ref h0), (1, .int a1)] := hl
  refine lv_iload_n hx hb dX12_size_0 rfl (lv_at hl 1 rfl) ?_
  refine lv_i2l (v := (a1 : Int32).toInt64) hx hb dX12_size_1 rfl ?_
  refine lv_lconst (v := 0) hx hb dX12_size_2 (by decide) ?_
  refine lv_ldc2 hx hb hown (hts (.constantLong RX12 132 (3)) (List.mem_of_getElem? (i := 1) rfl)) dX12_size_3 ?_
  have hP0 : va_P D vwCl [] s.heap := fun k q h => by simp at h
  refine vp_callSi (va_Run.run (va_runS (As := [.long ((a1 : Int32).toInt64), .long 0, .long 3]) (rest := []) ⟨hx, hb, hml, hown, hts⟩ (zd_X12_in l D cI cZ cP cF ((a1 : Int32).toInt64) 0 3  _ h) (va_cwS 3 hts zg_zd_X12_size_zd_X12_in_134 rfl rfl rfl (by decide +kernel) ⟨Nat.le_of_ble_eq_true rfl, Nat.le_of_ble_eq_true rfl⟩) ⟨zBR, fun U hU hW => ⟨rfl, by rw [hU]; exact hP0, hE.warm hW⟩⟩ rfl rfl hl.1 rfl (lv_room (Nat.le_of_ble_eq_true rfl)) dX12_size_6 ⟨Nat.le_of_ble_eq_true rfl, Nat.le_of_ble_eq_true rfl⟩)) (fun r1 h => ?_)
  refine lv_if_eq (tgt := 21) hx hb dX12_size_9 (by decide) (fun c_2 => ?_) (fun c_2 => ?_)
  · have h := h.1 c_2
    refine lv_bipush (v := (-2)) hx hb dX12_size_21 (by decide) ?_
    exact W.iret (v := (-2)) hx hb hr (fun t ht hW => ⟨_, rfl, h, ht⟩) (fun q h => by cases h) dX12_size_23
  · have h := h.2 c_2
    refine lv_aload_n hx hb dX12_size_12 rfl (lv_at hl 0 rfl) ?_
    refine va_get (D := D) (ci := 12) (v := .ref (q 13)) (C := RX12) (T := TX12) (N := 52) hx hb hts (fun _ h => List.mem_cons_of_mem _ (List.mem_append_right _ h)) hown hK hP 0 rfl rfl 13 (by decide) (hts (.fieldLink RX12 44 "TemplateForgeModel" "sizes" "[I") (List.mem_of_getElem? (i := 6) rfl)) (fun _ h9 => h9) rfl dX12_size_13 ?_
    refine lv_iload_n hx hb dX12_size_16 rfl (lv_at hl 1 rfl) ?_
    have hin_3 := h.1
    have h := h.2
    refine va_iald hx hb hK hP 12 0 rfl rfl hin_3 dX12_size_17 ?_
    refine lv_goto (tgt := 23) hx hb dX12_size_18 (by decide) ?_
    exact W.iret (v := S 13 (a1 : Int32).toNatClampNeg) hx hb hr (fun t ht hW => ⟨_, rfl, h, ht⟩) (fun q h => by cases h) dX12_size_23
def wp_X12_trap (S : MST) (a1 : Int32) (Post : Int32 → Prop) : Prop :=
  wp_X12_in ((a1 : Int32).toInt64) 0 3 (fun r1 => (((r1 : Int32) = 0) → (Post (-2))) ∧ ((¬ ((r1 : Int32) = 0)) → (vp_in a1 4 ∧ (Post (S 50 (a1 : Int32).toNatClampNeg)))))
def zw_zd_X12_trap_w0 : List Cond := [.constantLong RX12 132 (3), .code yX12_in cX12_in 6 (some .boolean), .methodLink RX12 134 yX12_in, .static yX12_in, .initialized RX12, .fieldLink RX12 126 "TemplateForgeModel" "trap" "[I"]
def zw_zd_X12_trap : List Cond := .code yX12_trap cX12_trap 2 (some .int) :: ((zw_zd_X12_trap_w0) ++ wsX120)
set_option maxRecDepth 100000 in
theorem zg_zd_X12_trap_zd_X12_in_134_a : GoodIn zw_zd_X12_trap [.methodLink RX12 134 yX12_in, .static yX12_in, .initialized RX12] := goodIn_r _ [3, 4, 5] rfl (by decide +kernel)
set_option maxRecDepth 100000 in
theorem zg_zd_X12_trap_zd_X12_in_134_c : GoodIn zw_zd_X12_trap [.code yX12_in cX12_in 6 (some .boolean)] := goodIn_r _ [2] rfl (by decide +kernel)
theorem zg_zd_X12_trap_zd_X12_in_134 : GoodIn zw_zd_X12_trap (va_wsS RX12 134 yX12_in zw_zd_X12_in) := goodIn_app zg_zd_X12_trap_zd_X12_in_134_a (show GoodIn zw_zd_X12_trap (.code yX12_in cX12_in 6 (some .boolean) :: (([] : List Cond))) from zg_zd_X12_trap_zd_X12_in_134_c)
set_option maxHeartbeats 16000000 in
set_option maxRecDepth 100000 in
theorem zd_X12_trap (l : Launch) (D : va_G) (cI cZ cP cF : Nat) (h0 : Nat) (q : Nat → Nat) (S : MST) (a1 : Int32) (Post : Int32 → Prop) (h : wp_X12_trap S a1 Post) : Met l yX12_trap zw_zd_X12_trap ({ frames := 1, cells := 0, slots := 0, locals := 25 }) (va_Pc [.ref h0, .int a1] (fun U => va_P D vwCl (mW cI cZ h0 q S) U.heap ∧ zE D cI cZ cP cF U)) (vp_Si Post) 0 0 (fun _ => False) := by
  unfold wp_X12_trap at h
  refine Met.ofW (cc := cX12_trap) (maxL := 2) (ret := (some .int)) (by decide) rfl ?_
  intro p e s m args below meth c s₁ B hml hv
  obtain ⟨rfl, hP, hE⟩ := hv
  have hx := B.exec
  have hb := B.bytes
  have hr := B.returns
  have hts := atoms_spec (ws := zw_zd_X12_trap) B.pre
  have hown : s.vm.findClass RX12 = some m.cls := findClass_of_methodNamed B.named
  have hlocks := B.notSynchronized
  have hK := hE.k
  have hl := lv_entry ([.ref h0, .int a1]) (n := 2) (Nat.le_of_ble_eq_true rfl)
  rw [lg_entry_eq]
  generalize (lg_sl ([.ref h0, .int a1]) ++ List.replicate (2 - (lg_sl ([.ref h0, .int a1])).length) Slot.unset).toArray = ls at hl ⊢
  have hl : lv_has ls 2 [(0, .ref h0), (1, .int a1)] := hl
  refine lv_iload_n hx hb dX12_trap_0 rfl (lv_at hl 1 rfl) ?_
  refine lv_i2l (v := (a1 : Int32).toInt64) hx hb dX12_trap_1 rfl ?_
  refine lv_lconst (v := 0) hx hb dX12_trap_2 (by decide) ?_
  refine lv_ldc2 hx hb hown (hts (.constantLong RX12 132 (3)) (List.mem_of_getElem? (i := 1) rfl)) dX12_trap_3 ?_
  have hP0 : va_P D vwCl [] s.heap := fun k q h => by simp at h
  refine vp_callSi (va_Run.run (va_runS (As := [.long ((a1 : Int32).toInt64), .long 0, .long 3]) (rest := []) ⟨hx, hb, hml, hown, hts⟩ (zd_X12_in l D cI cZ cP cF ((a1 : Int32).toInt64) 0 3  _ h) (va_cwS 3 hts zg_zd_X12_trap_zd_X12_in_134 rfl rfl rfl (by decide +kernel) ⟨Nat.le_of_ble_eq_true rfl, Nat.le_of_ble_eq_true rfl⟩) ⟨zBR, fun U hU hW => ⟨rfl, by rw [hU]; exact hP0, hE.warm hW⟩⟩ rfl rfl hl.1 rfl (lv_room (Nat.le_of_ble_eq_true rfl)) dX12_trap_6 ⟨Nat.le_of_ble_eq_true rfl, Nat.le_of_ble_eq_true rfl⟩)) (fun r1 h => ?_)
  refine lv_if_eq (tgt := 21) hx hb dX12_trap_9 (by decide) (fun c_2 => ?_) (fun c_2 => ?_)
  · have h := h.1 c_2
    refine lv_bipush (v := (-2)) hx hb dX12_trap_21 (by decide) ?_
    exact W.iret (v := (-2)) hx hb hr (fun t ht hW => ⟨_, rfl, h, ht⟩) (fun q h => by cases h) dX12_trap_23
  · have h := h.2 c_2
    refine lv_aload_n hx hb dX12_trap_12 rfl (lv_at hl 0 rfl) ?_
    refine va_get (D := D) (ci := 12) (v := .ref (q 50)) (C := RX12) (T := TX12) (N := 52) hx hb hts (fun _ h => List.mem_cons_of_mem _ (List.mem_append_right _ h)) hown hK hP 0 rfl rfl 50 (by decide) (hts (.fieldLink RX12 126 "TemplateForgeModel" "trap" "[I") (List.mem_of_getElem? (i := 6) rfl)) (fun _ h9 => h9) rfl dX12_trap_13 ?_
    refine lv_iload_n hx hb dX12_trap_16 rfl (lv_at hl 1 rfl) ?_
    have hin_3 := h.1
    have h := h.2
    refine va_iald hx hb hK hP 39 0 rfl rfl hin_3 dX12_trap_17 ?_
    refine lv_goto (tgt := 23) hx hb dX12_trap_18 (by decide) ?_
    exact W.iret (v := S 50 (a1 : Int32).toNatClampNeg) hx hb hr (fun t ht hW => ⟨_, rfl, h, ht⟩) (fun q h => by cases h) dX12_trap_23
def wp_X12_varies (S : MST) (a1 : Int32) (a2 : Int32) (Post : Int32 → Prop) : Prop :=
  wp_X12_isMethod S a1 (fun r1 => (((r1 : Int32) = 0) → (Post (-2))) ∧ ((¬ ((r1 : Int32) = 0)) → (wp_X12_in ((a2 : Int32).toInt64) 0 2 (fun r3 => ((¬ ((r3 : Int32) = 0)) → (((3 ≤ a2) → (vp_in ((11 * a1) + (a2 - 7)) 88 ∧ (((((S 22 ((11 * a1) + (a2 - 7) : Int32).toNatClampNeg) : Int32) = 0) → (Post 0)) ∧ ((¬ (((S 22 ((11 * a1) + (a2 - 7) : Int32).toNatClampNeg) : Int32) = 0)) → (Post 1))))) ∧ ((¬ (3 ≤ a2)) → (vp_in ((11 * a1) + a2) 88 ∧ (((((S 22 ((11 * a1) + a2 : Int32).toNatClampNeg) : Int32) = 0) → (Post 0)) ∧ ((¬ (((S 22 ((11 * a1) + a2 : Int32).toNatClampNeg) : Int32) = 0)) → (Post 1))))))) ∧ (((r3 : Int32) = 0) → (wp_X12_in ((a2 : Int32).toInt64) 10 17 (fun r10 => ((¬ ((r10 : Int32) = 0)) → (((3 ≤ a2) → (vp_in ((11 * a1) + (a2 - 7)) 88 ∧ (((((S 22 ((11 * a1) + (a2 - 7) : Int32).toNatClampNeg) : Int32) = 0) → (Post 0)) ∧ ((¬ (((S 22 ((11 * a1) + (a2 - 7) : Int32).toNatClampNeg) : Int32) = 0)) → (Post 1))))) ∧ ((¬ (3 ≤ a2)) → (vp_in ((11 * a1) + a2) 88 ∧ (((((S 22 ((11 * a1) + a2 : Int32).toNatClampNeg) : Int32) = 0) → (Post 0)) ∧ ((¬ (((S 22 ((11 * a1) + a2 : Int32).toNatClampNeg) : Int32) = 0)) → (Post 1))))))) ∧ (((r10 : Int32) = 0) → (Post (-2))))))))))
def zw_zd_X12_varies_w0 : List Cond := [.code yX12_isMethod cX12_isMethod 2 (some .boolean), .fieldLink RX12 140 "TemplateForgeModel" "methods" "I", .code yX12_in cX12_in 6 (some .boolean), .methodLink RX12 134 yX12_in, .static yX12_in, .initialized RX12, .methodLink RX12 144 yX12_isMethod, .instanceMethod yX12_isMethod, .selects RX12 yX12_isMethod yX12_isMethod, .constantLong RX12 297 (2), .fieldLink RX12 71 "TemplateForgeModel" "doesVary" "[Z", .constantLong RX12 299 (10), .constantLong RX12 301 (17)]
def zw_zd_X12_varies : List Cond := .code yX12_varies cX12_varies 3 (some .int) :: ((zw_zd_X12_varies_w0) ++ wsX120)
set_option maxRecDepth 100000 in
theorem zg_zd_X12_varies_zd_X12_isMethod_144_a : GoodIn zw_zd_X12_varies [.methodLink RX12 144 yX12_isMethod, .instanceMethod yX12_isMethod, .selects RX12 yX12_isMethod yX12_isMethod, .initialized RX12] := goodIn_r _ [7, 8, 9, 6] rfl (by decide +kernel)
set_option maxRecDepth 100000 in
theorem zg_zd_X12_varies_zd_X12_isMethod_144_c : GoodIn zw_zd_X12_varies [.code yX12_isMethod cX12_isMethod 2 (some .boolean)] := goodIn_r _ [1] rfl (by decide +kernel)
set_option maxRecDepth 100000 in
theorem zg_zd_X12_varies_zd_X12_isMethod_144_0 : GoodIn zw_zd_X12_varies zw_zd_X12_isMethod_w0 := goodIn_r _ [2, 3, 4, 5, 6] rfl (by decide +kernel)
theorem zg_zd_X12_varies_zd_X12_isMethod_144 : GoodIn zw_zd_X12_varies (wsV RX12 144 RX12 yX12_isMethod zw_zd_X12_isMethod) := goodIn_app zg_zd_X12_varies_zd_X12_isMethod_144_a (goodIn_ca (a := (zw_zd_X12_isMethod_w0)) (show GoodIn zw_zd_X12_varies (.code yX12_isMethod cX12_isMethod 2 (some .boolean) :: (zw_zd_X12_isMethod_w0)) from goodIn_app zg_zd_X12_varies_zd_X12_isMethod_144_c (zg_zd_X12_varies_zd_X12_isMethod_144_0)) (fun w h => ⟨(fun _ h => List.mem_cons_of_mem _ (List.mem_append_right _ h)) w h, good_of_word (List.all_eq_true.mp zgw_X12 w h)⟩))
set_option maxRecDepth 100000 in
theorem zg_zd_X12_varies_zd_X12_in_134_a : GoodIn zw_zd_X12_varies [.methodLink RX12 134 yX12_in, .static yX12_in, .initialized RX12] := goodIn_r _ [4, 5, 6] rfl (by decide +kernel)
set_option maxRecDepth 100000 in
theorem zg_zd_X12_varies_zd_X12_in_134_c : GoodIn zw_zd_X12_varies [.code yX12_in cX12_in 6 (some .boolean)] := goodIn_r _ [3] rfl (by decide +kernel)
theorem zg_zd_X12_varies_zd_X12_in_134 : GoodIn zw_zd_X12_varies (va_wsS RX12 134 yX12_in zw_zd_X12_in) := goodIn_app zg_zd_X12_varies_zd_X12_in_134_a (show GoodIn zw_zd_X12_varies (.code yX12_in cX12_in 6 (some .boolean) :: (([] : List Cond))) from zg_zd_X12_varies_zd_X12_in_134_c)
set_option maxHeartbeats 16000000 in
set_option maxRecDepth 100000 in
theorem zd_X12_varies (l : Launch) (D : va_G) (cI cZ cP cF : Nat) (h0 : Nat) (q : Nat → Nat) (S : MST) (a1 : Int32) (a2 : Int32) (Post : Int32 → Prop) (h : wp_X12_varies S a1 a2 Post) : Met l yX12_varies zw_zd_X12_varies ({ frames := 2, cells := 0, slots := 0, locals := 46 }) (va_Pc [.ref h0, .int a1, .int a2] (fun U => va_P D vwCl (mW cI cZ h0 q S) U.heap ∧ zE D cI cZ cP cF U)) (vp_Si Post) 0 0 (fun _ => False) := by
  unfold wp_X12_varies at h
  refine Met.ofW (cc := cX12_varies) (maxL := 3) (ret := (some .int)) (by decide) rfl ?_
  intro p e s m args below meth c s₁ B hml hv
  obtain ⟨rfl, hP, hE⟩ := hv
  have hx := B.exec
  have hb := B.bytes
  have hr := B.returns
  have hts := atoms_spec (ws := zw_zd_X12_varies) B.pre
  have hown : s.vm.findClass RX12 = some m.cls := findClass_of_methodNamed B.named
  have hlocks := B.notSynchronized
  have hK := hE.k
  have hl := lv_entry ([.ref h0, .int a1, .int a2]) (n := 3) (Nat.le_of_ble_eq_true rfl)
  rw [lg_entry_eq]
  generalize (lg_sl ([.ref h0, .int a1, .int a2]) ++ List.replicate (3 - (lg_sl ([.ref h0, .int a1, .int a2])).length) Slot.unset).toArray = ls at hl ⊢
  have hl : lv_has ls 3 [(0, .ref h0), (1, .int a1), (2, .int a2)] := hl
  refine lv_aload_n hx hb dX12_varies_0 rfl (lv_at hl 0 rfl) ?_
  refine lv_iload_n hx hb dX12_varies_1 rfl (lv_at hl 1 rfl) ?_
  refine vp_callSi (va_Run.run (va_runV (As := [.int a1]) (rest := []) ⟨hx, hb, hml, hown, hts⟩ (zd_X12_isMethod l D cI cZ cP cF h0 q S a1  _ h) (cwV 1 hts zg_zd_X12_varies_zd_X12_isMethod_144 rfl rfl rfl (by decide +kernel) ⟨Nat.le_of_ble_eq_true rfl, Nat.le_of_ble_eq_true rfl⟩) ⟨zBR, va_recv hK hP (ci := 12) (q0 := 0) rfl rfl, fun U hU hW => ⟨rfl, by rw [hU]; exact hP, hE.warm hW⟩⟩ rfl rfl hl.1 rfl (lv_room (Nat.le_of_ble_eq_true rfl)) dX12_varies_2 ⟨Nat.le_of_ble_eq_true rfl, Nat.le_of_ble_eq_true rfl⟩)) (fun r1 h => ?_)
  refine lv_if_eq (tgt := 34) hx hb dX12_varies_5 (by decide) (fun c_2 => ?_) (fun c_2 => ?_)
  · have h := h.1 c_2
    refine lv_bipush (v := (-2)) hx hb dX12_varies_34 (by decide) ?_
    exact W.iret (v := (-2)) hx hb hr (fun t ht hW => ⟨_, rfl, h, ht⟩) (fun q h => by cases h) dX12_varies_36
  · have h := h.2 c_2
    refine lv_iload_n hx hb dX12_varies_8 rfl (lv_at hl 2 rfl) ?_
    refine lv_i2l (v := (a2 : Int32).toInt64) hx hb dX12_varies_9 rfl ?_
    refine lv_lconst (v := 0) hx hb dX12_varies_10 (by decide) ?_
    refine lv_ldc2 hx hb hown (hts (.constantLong RX12 297 (2)) (List.mem_of_getElem? (i := 10) rfl)) dX12_varies_11 ?_
    have hP0 : va_P D vwCl [] s.heap := fun k q h => by simp at h
    refine vp_callSi (va_Run.run (va_runS (As := [.long ((a2 : Int32).toInt64), .long 0, .long 2]) (rest := []) ⟨hx, hb, hml, hown, hts⟩ (zd_X12_in l D cI cZ cP cF ((a2 : Int32).toInt64) 0 2  _ h) (va_cwS 3 hts zg_zd_X12_varies_zd_X12_in_134 rfl rfl rfl (by decide +kernel) ⟨Nat.le_of_ble_eq_true rfl, Nat.le_of_ble_eq_true rfl⟩) ⟨zBR, fun U hU hW => ⟨rfl, by rw [hU]; exact hP0, hE.warm hW⟩⟩ rfl rfl hl.1 rfl (lv_room (Nat.le_of_ble_eq_true rfl)) dX12_varies_14 ⟨Nat.le_of_ble_eq_true rfl, Nat.le_of_ble_eq_true rfl⟩)) (fun r3 h => ?_)
    refine lv_if_ne (tgt := 37) hx hb dX12_varies_17 (by decide) (fun c_4 => ?_) (fun c_4 => ?_)
    · have h := h.1 c_4
      refine lv_aload_n hx hb dX12_varies_37 rfl (lv_at hl 0 rfl) ?_
      refine va_get (D := D) (ci := 12) (v := .ref (q 22)) (C := RX12) (T := TX12) (N := 52) hx hb hts (fun _ h => List.mem_cons_of_mem _ (List.mem_append_right _ h)) hown hK hP 0 rfl rfl 22 (by decide) (hts (.fieldLink RX12 71 "TemplateForgeModel" "doesVary" "[Z") (List.mem_of_getElem? (i := 11) rfl)) (fun _ h9 => h9) rfl dX12_varies_38 ?_
      refine lv_bipush (v := 11) hx hb dX12_varies_41 (by decide) ?_
      refine lv_iload_n hx hb dX12_varies_43 rfl (lv_at hl 1 rfl) ?_
      refine lv_imul hx hb dX12_varies_44 ?_
      refine lv_iload_n hx hb dX12_varies_45 rfl (lv_at hl 2 rfl) ?_
      refine lv_iconst (v := 3) hx hb dX12_varies_46 (by decide) ?_
      refine lv_icmp_ge (tgt := 54) hx hb dX12_varies_47 (by decide) (fun c_5 => ?_) (fun c_5 => ?_)
      · have h := h.1 c_5
        refine lv_iload_n hx hb dX12_varies_54 rfl (lv_at hl 2 rfl) ?_
        refine lv_bipush (v := 7) hx hb dX12_varies_55 (by decide) ?_
        refine lv_isub hx hb dX12_varies_57 ?_
        refine lv_iadd hx hb dX12_varies_58 ?_
        have hin_6 := h.1
        have h := h.2
        refine va_zald hx hb hK hP 21 1 rfl rfl hin_6 dX12_varies_59 ?_
        refine lv_if_eq (tgt := 67) hx hb dX12_varies_60 (by decide) (fun c_7 => ?_) (fun c_7 => ?_)
        · have h := h.1 c_7
          refine lv_iconst (v := 0) hx hb dX12_varies_67 (by decide) ?_
          exact W.iret (v := 0) hx hb hr (fun t ht hW => ⟨_, rfl, h, ht⟩) (fun q h => by cases h) dX12_varies_68
        · have h := h.2 c_7
          refine lv_iconst (v := 1) hx hb dX12_varies_63 (by decide) ?_
          refine lv_goto (tgt := 68) hx hb dX12_varies_64 (by decide) ?_
          exact W.iret (v := 1) hx hb hr (fun t ht hW => ⟨_, rfl, h, ht⟩) (fun q h => by cases h) dX12_varies_68
      · have h := h.2 c_5
        refine lv_iload_n hx hb dX12_varies_50 rfl (lv_at hl 2 rfl) ?_
        refine lv_goto (tgt := 58) hx hb dX12_varies_51 (by decide) ?_
        refine lv_iadd hx hb dX12_varies_58 ?_
        have hin_8 := h.1
        have h := h.2
        refine va_zald hx hb hK hP 21 1 rfl rfl hin_8 dX12_varies_59 ?_
        refine lv_if_eq (tgt := 67) hx hb dX12_varies_60 (by decide) (fun c_9 => ?_) (fun c_9 => ?_)
        · have h := h.1 c_9
          refine lv_iconst (v := 0) hx hb dX12_varies_67 (by decide) ?_
          exact W.iret (v := 0) hx hb hr (fun t ht hW => ⟨_, rfl, h, ht⟩) (fun q h => by cases h) dX12_varies_68
        · have h := h.2 c_9
          refine lv_iconst (v := 1) hx hb dX12_varies_63 (by decide) ?_
          refine lv_goto (tgt := 68) hx hb dX12_varies_64 (by decide) ?_
          exact W.iret (v := 1) hx hb hr (fun t ht hW => ⟨_, rfl, h, ht⟩) (fun q h => by cases h) dX12_varies_68
    · have h := h.2 c_4
      refine lv_iload_n hx hb dX12_varies_20 rfl (lv_at hl 2 rfl) ?_
      refine lv_i2l (v := (a2 : Int32).toInt64) hx hb dX12_varies_21 rfl ?_
      refine lv_ldc2 hx hb hown (hts (.constantLong RX12 299 (10)) (List.mem_of_getElem? (i := 12) rfl)) dX12_varies_22 ?_
      refine lv_ldc2 hx hb hown (hts (.constantLong RX12 301 (17)) (List.mem_of_getElem? (i := 13) rfl)) dX12_varies_25 ?_
      have hP0 : va_P D vwCl [] s.heap := fun k q h => by simp at h
      refine vp_callSi (va_Run.run (va_runS (As := [.long ((a2 : Int32).toInt64), .long 10, .long 17]) (rest := []) ⟨hx, hb, hml, hown, hts⟩ (zd_X12_in l D cI cZ cP cF ((a2 : Int32).toInt64) 10 17  _ h) (va_cwS 3 hts zg_zd_X12_varies_zd_X12_in_134 rfl rfl rfl (by decide +kernel) ⟨Nat.le_of_ble_eq_true rfl, Nat.le_of_ble_eq_true rfl⟩) ⟨zBR, fun U hU hW => ⟨rfl, by rw [hU]; exact hP0, hE.warm hW⟩⟩ rfl rfl hl.1 rfl (lv_room (Nat.le_of_ble_eq_true rfl)) dX12_varies_28 ⟨Nat.le_of_ble_eq_true rfl, Nat.le_of_ble_eq_true rfl⟩)) (fun r10 h => ?_)
      refine lv_if_ne (tgt := 37) hx hb dX12_varies_31 (by decide) (fun c_11 => ?_) (fun c_11 => ?_)
      · have h := h.1 c_11
        refine lv_aload_n hx hb dX12_varies_37 rfl (lv_at hl 0 rfl) ?_
        refine va_get (D := D) (ci := 12) (v := .ref (q 22)) (C := RX12) (T := TX12) (N := 52) hx hb hts (fun _ h => List.mem_cons_of_mem _ (List.mem_append_right _ h)) hown hK hP 0 rfl rfl 22 (by decide) (hts (.fieldLink RX12 71 "TemplateForgeModel" "doesVary" "[Z") (List.mem_of_getElem? (i := 11) rfl)) (fun _ h9 => h9) rfl dX12_varies_38 ?_
        refine lv_bipush (v := 11) hx hb dX12_varies_41 (by decide) ?_
        refine lv_iload_n hx hb dX12_varies_43 rfl (lv_at hl 1 rfl) ?_
        refine lv_imul hx hb dX12_varies_44 ?_
        refine lv_iload_n hx hb dX12_varies_45 rfl (lv_at hl 2 rfl) ?_
        refine lv_iconst (v := 3) hx hb dX12_varies_46 (by decide) ?_
        refine lv_icmp_ge (tgt := 54) hx hb dX12_varies_47 (by decide) (fun c_12 => ?_) (fun c_12 => ?_)
        · have h := h.1 c_12
          refine lv_iload_n hx hb dX12_varies_54 rfl (lv_at hl 2 rfl) ?_
          refine lv_bipush (v := 7) hx hb dX12_varies_55 (by decide) ?_
          refine lv_isub hx hb dX12_varies_57 ?_
          refine lv_iadd hx hb dX12_varies_58 ?_
          have hin_13 := h.1
          have h := h.2
          refine va_zald hx hb hK hP 21 1 rfl rfl hin_13 dX12_varies_59 ?_
          refine lv_if_eq (tgt := 67) hx hb dX12_varies_60 (by decide) (fun c_14 => ?_) (fun c_14 => ?_)
          · have h := h.1 c_14
            refine lv_iconst (v := 0) hx hb dX12_varies_67 (by decide) ?_
            exact W.iret (v := 0) hx hb hr (fun t ht hW => ⟨_, rfl, h, ht⟩) (fun q h => by cases h) dX12_varies_68
          · have h := h.2 c_14
            refine lv_iconst (v := 1) hx hb dX12_varies_63 (by decide) ?_
            refine lv_goto (tgt := 68) hx hb dX12_varies_64 (by decide) ?_
            exact W.iret (v := 1) hx hb hr (fun t ht hW => ⟨_, rfl, h, ht⟩) (fun q h => by cases h) dX12_varies_68
        · have h := h.2 c_12
          refine lv_iload_n hx hb dX12_varies_50 rfl (lv_at hl 2 rfl) ?_
          refine lv_goto (tgt := 58) hx hb dX12_varies_51 (by decide) ?_
          refine lv_iadd hx hb dX12_varies_58 ?_
          have hin_15 := h.1
          have h := h.2
          refine va_zald hx hb hK hP 21 1 rfl rfl hin_15 dX12_varies_59 ?_
          refine lv_if_eq (tgt := 67) hx hb dX12_varies_60 (by decide) (fun c_16 => ?_) (fun c_16 => ?_)
          · have h := h.1 c_16
            refine lv_iconst (v := 0) hx hb dX12_varies_67 (by decide) ?_
            exact W.iret (v := 0) hx hb hr (fun t ht hW => ⟨_, rfl, h, ht⟩) (fun q h => by cases h) dX12_varies_68
          · have h := h.2 c_16
            refine lv_iconst (v := 1) hx hb dX12_varies_63 (by decide) ?_
            refine lv_goto (tgt := 68) hx hb dX12_varies_64 (by decide) ?_
            exact W.iret (v := 1) hx hb hr (fun t ht hW => ⟨_, rfl, h, ht⟩) (fun q h => by cases h) dX12_varies_68
      · have h := h.2 c_11
        refine lv_bipush (v := (-2)) hx hb dX12_varies_34 (by decide) ?_
        exact W.iret (v := (-2)) hx hb hr (fun t ht hW => ⟨_, rfl, h, ht⟩) (fun q h => by cases h) dX12_varies_36
def wp_X12_write (S : MST) (a1 : Int32) (a2 : Int32) (a3 : Int32) (Post : MST → Int32 → Prop) : Prop :=
  wp_X12_isMethod S a1 (fun r1 => (((r1 : Int32) = 0) → (Post S (-2))) ∧ ((¬ ((r1 : Int32) = 0)) → (wp_X12_in ((a2 : Int32).toInt64) 0 19 (fun r3 => ((¬ ((r3 : Int32) = 0)) → (vp_in a1 8 ∧ (((((S 6 (a1 : Int32).toNatClampNeg) : Int32) = 0) → (vp_in a1 8 ∧ (((¬ (((S 3 (a1 : Int32).toNatClampNeg) : Int32) = 60)) → (vp_in a1 8 ∧ (vp_in ((60 * a1) + (S 3 (a1 : Int32).toNatClampNeg)) 480 ∧ (∀ S10 : MST, S10 = ms S 4 (upd (S 4) ((60 * a1) + (S 3 (a1 : Int32).toNatClampNeg) : Int32).toNatClampNeg a2) → (vp_in a1 8 ∧ (vp_in ((60 * a1) + (S10 3 (a1 : Int32).toNatClampNeg)) 480 ∧ (∀ S12 : MST, S12 = ms S10 5 (upd (S10 5) ((60 * a1) + (S10 3 (a1 : Int32).toNatClampNeg) : Int32).toNatClampNeg a3) → (vp_in a1 8 ∧ (vp_in a1 8 ∧ (∀ S14 : MST, S14 = ms S12 3 (upd (S12 3) (a1 : Int32).toNatClampNeg ((S12 3 (a1 : Int32).toNatClampNeg) + 1)) → (vp_in a1 8 ∧ (Post S14 ((S14 3 (a1 : Int32).toNatClampNeg) - 1))))))))))))) ∧ ((((S 3 (a1 : Int32).toNatClampNeg) : Int32) = 60) → (Post S (-4)))))) ∧ ((¬ (((S 6 (a1 : Int32).toNatClampNeg) : Int32) = 0)) → (Post S (-3)))))) ∧ (((r3 : Int32) = 0) → (Post S (-2)))))))
def zw_zd_X12_write_w0 : List Cond := [.code yX12_isMethod cX12_isMethod 2 (some .boolean), .fieldLink RX12 140 "TemplateForgeModel" "methods" "I", .code yX12_in cX12_in 6 (some .boolean), .methodLink RX12 134 yX12_in, .static yX12_in, .initialized RX12, .methodLink RX12 144 yX12_isMethod, .instanceMethod yX12_isMethod, .selects RX12 yX12_isMethod yX12_isMethod, .constantLong RX12 148 (19), .fieldLink RX12 25 "TemplateForgeModel" "isLooked" "[Z", .fieldLink RX12 16 "TemplateForgeModel" "many" "[I", .fieldLink RX12 19 "TemplateForgeModel" "op" "[I", .fieldLink RX12 22 "TemplateForgeModel" "operand" "[I"]
def zw_zd_X12_write : List Cond := .code yX12_write cX12_write 4 (some .int) :: ((zw_zd_X12_write_w0) ++ wsX120)
set_option maxRecDepth 100000 in
theorem zg_zd_X12_write_zd_X12_isMethod_144_a : GoodIn zw_zd_X12_write [.methodLink RX12 144 yX12_isMethod, .instanceMethod yX12_isMethod, .selects RX12 yX12_isMethod yX12_isMethod, .initialized RX12] := goodIn_r _ [7, 8, 9, 6] rfl (by decide +kernel)
set_option maxRecDepth 100000 in
theorem zg_zd_X12_write_zd_X12_isMethod_144_c : GoodIn zw_zd_X12_write [.code yX12_isMethod cX12_isMethod 2 (some .boolean)] := goodIn_r _ [1] rfl (by decide +kernel)
set_option maxRecDepth 100000 in
theorem zg_zd_X12_write_zd_X12_isMethod_144_0 : GoodIn zw_zd_X12_write zw_zd_X12_isMethod_w0 := goodIn_r _ [2, 3, 4, 5, 6] rfl (by decide +kernel)
theorem zg_zd_X12_write_zd_X12_isMethod_144 : GoodIn zw_zd_X12_write (wsV RX12 144 RX12 yX12_isMethod zw_zd_X12_isMethod) := goodIn_app zg_zd_X12_write_zd_X12_isMethod_144_a (goodIn_ca (a := (zw_zd_X12_isMethod_w0)) (show GoodIn zw_zd_X12_write (.code yX12_isMethod cX12_isMethod 2 (some .boolean) :: (zw_zd_X12_isMethod_w0)) from goodIn_app zg_zd_X12_write_zd_X12_isMethod_144_c (zg_zd_X12_write_zd_X12_isMethod_144_0)) (fun w h => ⟨(fun _ h => List.mem_cons_of_mem _ (List.mem_append_right _ h)) w h, good_of_word (List.all_eq_true.mp zgw_X12 w h)⟩))
set_option maxRecDepth 100000 in
theorem zg_zd_X12_write_zd_X12_in_134_a : GoodIn zw_zd_X12_write [.methodLink RX12 134 yX12_in, .static yX12_in, .initialized RX12] := goodIn_r _ [4, 5, 6] rfl (by decide +kernel)
set_option maxRecDepth 100000 in
theorem zg_zd_X12_write_zd_X12_in_134_c : GoodIn zw_zd_X12_write [.code yX12_in cX12_in 6 (some .boolean)] := goodIn_r _ [3] rfl (by decide +kernel)
theorem zg_zd_X12_write_zd_X12_in_134 : GoodIn zw_zd_X12_write (va_wsS RX12 134 yX12_in zw_zd_X12_in) := goodIn_app zg_zd_X12_write_zd_X12_in_134_a (show GoodIn zw_zd_X12_write (.code yX12_in cX12_in 6 (some .boolean) :: (([] : List Cond))) from zg_zd_X12_write_zd_X12_in_134_c)
set_option maxHeartbeats 16000000 in
set_option maxRecDepth 100000 in
theorem zd_X12_write (l : Launch) (D : va_G) (cI cZ cP cF : Nat) (h0 : Nat) (q : Nat → Nat) (S : MST) (a1 : Int32) (a2 : Int32) (a3 : Int32) (sz : Nat) (Post : MST → Int32 → Prop) (h : wp_X12_write S a1 a2 a3 Post) : Met l yX12_write zw_zd_X12_write ({ frames := 2, cells := 0, slots := 0, locals := 46 }) (va_Pc [.ref h0, .int a1, .int a2, .int a3] (fun U => U.heap.size = sz ∧ va_P D vwCl (mW cI cZ h0 q S) U.heap ∧ zE D cI cZ cP cF U ∧ va_D (fun _ => True) (mW cI cZ h0 q S))) (va_Qi (fun r S' => Post S' r) (fun (S' : MST) t => va_P D vwCl (mW cI cZ h0 q S') t.heap ∧ va_D (va_A (mW cI cZ h0 q S) sz) (mW cI cZ h0 q S')) (va_A (mW cI cZ h0 q S) sz)) 0 0 (va_A (mW cI cZ h0 q S) sz) := by
  unfold wp_X12_write at h
  refine Met.ofW (cc := cX12_write) (maxL := 4) (ret := (some .int)) (by decide) rfl ?_
  intro p e s m args below meth c s₁ B hml hv
  obtain ⟨rfl, hsz, hP, hE, hD0⟩ := hv
  have hx := B.exec
  have hb := B.bytes
  have hr := B.returns
  have hts := atoms_spec (ws := zw_zd_X12_write) B.pre
  have hown : s.vm.findClass RX12 = some m.cls := findClass_of_methodNamed B.named
  have hlocks := B.notSynchronized
  have hK := hE.k
  subst hsz
  have hD := hD0.self (sz := s.heap.size)
  generalize hAe : va_A (mW cI cZ h0 q S) s.heap.size = A at hD ⊢
  have hA : ∀ q : Nat, s.heap.size ≤ q → A q := fun q h => by rw [← hAe]; exact Or.inr h
  have hl := lv_entry ([.ref h0, .int a1, .int a2, .int a3]) (n := 4) (Nat.le_of_ble_eq_true rfl)
  rw [lg_entry_eq]
  generalize (lg_sl ([.ref h0, .int a1, .int a2, .int a3]) ++ List.replicate (4 - (lg_sl ([.ref h0, .int a1, .int a2, .int a3])).length) Slot.unset).toArray = ls at hl ⊢
  have hl : lv_has ls 4 [(0, .ref h0), (1, .int a1), (2, .int a2), (3, .int a3)] := hl
  have key : ∀ (H : Heap) (locs : List Loc), va_P D vwCl (mW cI cZ h0 q S) H → va_S A s.heap H locs → W p l e (headSpec zw_zd_X12_write ({ frames := 2, cells := 0, slots := 0, locals := 46 })).room s m ([.ref h0, .int a1, .int a2, .int a3] : List Value).toArray below meth c H locs 0 0 (MQ below (va_Qi (fun r S' => Post S' r) (fun (S' : MST) t => va_P D vwCl (mW cI cZ h0 q S') t.heap ∧ va_D A (mW cI cZ h0 q S')) A) ([.ref h0, .int a1, .int a2, .int a3] : List Value).toArray s 0 0 A) (F0 m 0 ls []) := by
    intro H locs hP hS
    refine lv_aload_n hx hb dX12_write_0 rfl (lv_at hl 0 rfl) ?_
    refine lv_iload_n hx hb dX12_write_1 rfl (lv_at hl 1 rfl) ?_
    refine vp_callSi (va_Run.run (va_runV (As := [.int a1]) (rest := []) ⟨hx, hb, hml, hown, hts⟩ (zd_X12_isMethod l D cI cZ cP cF h0 q S a1  _ h) (cwV 1 hts zg_zd_X12_write_zd_X12_isMethod_144 rfl rfl rfl (by decide +kernel) ⟨Nat.le_of_ble_eq_true rfl, Nat.le_of_ble_eq_true rfl⟩) ⟨zBR, va_recv hK hP (ci := 12) (q0 := 0) rfl rfl, fun U hU hW => ⟨rfl, by rw [hU]; exact hP, hE.warm hW⟩⟩ rfl rfl hl.1 rfl (lv_room (Nat.le_of_ble_eq_true rfl)) dX12_write_2 ⟨Nat.le_of_ble_eq_true rfl, Nat.le_of_ble_eq_true rfl⟩)) (fun r1 h => ?_)
    refine lv_if_eq (tgt := 20) hx hb dX12_write_5 (by decide) (fun c_2 => ?_) (fun c_2 => ?_)
    · have h := h.1 c_2
      refine lv_bipush (v := (-2)) hx hb dX12_write_20 (by decide) ?_
      exact W.iret (v := (-2)) hx hb hr (fun t ht hW => ⟨⟨_, S, rfl, h, by rw [ht]; exact hP, hD⟩, hS.F ht⟩) hS.2.2 dX12_write_22
    · have h := h.2 c_2
      refine lv_iload_n hx hb dX12_write_8 rfl (lv_at hl 2 rfl) ?_
      refine lv_i2l (v := (a2 : Int32).toInt64) hx hb dX12_write_9 rfl ?_
      refine lv_lconst (v := 0) hx hb dX12_write_10 (by decide) ?_
      refine lv_ldc2 hx hb hown (hts (.constantLong RX12 148 (19)) (List.mem_of_getElem? (i := 10) rfl)) dX12_write_11 ?_
      have hP0 : va_P D vwCl [] H := fun k q h => by simp at h
      refine vp_callSi (va_Run.run (va_runS (As := [.long ((a2 : Int32).toInt64), .long 0, .long 19]) (rest := []) ⟨hx, hb, hml, hown, hts⟩ (zd_X12_in l D cI cZ cP cF ((a2 : Int32).toInt64) 0 19  _ h) (va_cwS 3 hts zg_zd_X12_write_zd_X12_in_134 rfl rfl rfl (by decide +kernel) ⟨Nat.le_of_ble_eq_true rfl, Nat.le_of_ble_eq_true rfl⟩) ⟨zBR, fun U hU hW => ⟨rfl, by rw [hU]; exact hP0, hE.warm hW⟩⟩ rfl rfl hl.1 rfl (lv_room (Nat.le_of_ble_eq_true rfl)) dX12_write_14 ⟨Nat.le_of_ble_eq_true rfl, Nat.le_of_ble_eq_true rfl⟩)) (fun r3 h => ?_)
      refine lv_if_ne (tgt := 23) hx hb dX12_write_17 (by decide) (fun c_4 => ?_) (fun c_4 => ?_)
      · have h := h.1 c_4
        refine lv_aload_n hx hb dX12_write_23 rfl (lv_at hl 0 rfl) ?_
        refine va_get (D := D) (ci := 12) (v := .ref (q 6)) (C := RX12) (T := TX12) (N := 52) hx hb hts (fun _ h => List.mem_cons_of_mem _ (List.mem_append_right _ h)) hown hK hP 0 rfl rfl 6 (by decide) (hts (.fieldLink RX12 25 "TemplateForgeModel" "isLooked" "[Z") (List.mem_of_getElem? (i := 11) rfl)) (fun _ h9 => h9) rfl dX12_write_24 ?_
        refine lv_iload_n hx hb dX12_write_27 rfl (lv_at hl 1 rfl) ?_
        have hin_5 := h.1
        have h := h.2
        refine va_zald hx hb hK hP 6 1 rfl rfl hin_5 dX12_write_28 ?_
        refine lv_if_eq (tgt := 35) hx hb dX12_write_29 (by decide) (fun c_6 => ?_) (fun c_6 => ?_)
        · have h := h.1 c_6
          refine lv_aload_n hx hb dX12_write_35 rfl (lv_at hl 0 rfl) ?_
          refine va_get (D := D) (ci := 12) (v := .ref (q 3)) (C := RX12) (T := TX12) (N := 52) hx hb hts (fun _ h => List.mem_cons_of_mem _ (List.mem_append_right _ h)) hown hK hP 0 rfl rfl 3 (by decide) (hts (.fieldLink RX12 16 "TemplateForgeModel" "many" "[I") (List.mem_of_getElem? (i := 12) rfl)) (fun _ h9 => h9) rfl dX12_write_36 ?_
          refine lv_iload_n hx hb dX12_write_39 rfl (lv_at hl 1 rfl) ?_
          have hin_7 := h.1
          have h := h.2
          refine va_iald hx hb hK hP 3 0 rfl rfl hin_7 dX12_write_40 ?_
          refine lv_bipush (v := 60) hx hb dX12_write_41 (by decide) ?_
          refine lv_icmp_ne (tgt := 49) hx hb dX12_write_43 (by decide) (fun c_8 => ?_) (fun c_8 => ?_)
          · have h := h.1 c_8
            refine lv_aload_n hx hb dX12_write_49 rfl (lv_at hl 0 rfl) ?_
            refine va_get (D := D) (ci := 12) (v := .ref (q 4)) (C := RX12) (T := TX12) (N := 52) hx hb hts (fun _ h => List.mem_cons_of_mem _ (List.mem_append_right _ h)) hown hK hP 0 rfl rfl 4 (by decide) (hts (.fieldLink RX12 19 "TemplateForgeModel" "op" "[I") (List.mem_of_getElem? (i := 13) rfl)) (fun _ h9 => h9) rfl dX12_write_50 ?_
            refine lv_bipush (v := 60) hx hb dX12_write_53 (by decide) ?_
            refine lv_iload_n hx hb dX12_write_55 rfl (lv_at hl 1 rfl) ?_
            refine lv_imul hx hb dX12_write_56 ?_
            refine lv_aload_n hx hb dX12_write_57 rfl (lv_at hl 0 rfl) ?_
            refine va_get (D := D) (ci := 12) (v := .ref (q 3)) (C := RX12) (T := TX12) (N := 52) hx hb hts (fun _ h => List.mem_cons_of_mem _ (List.mem_append_right _ h)) hown hK hP 0 rfl rfl 3 (by decide) (hts (.fieldLink RX12 16 "TemplateForgeModel" "many" "[I") (List.mem_of_getElem? (i := 12) rfl)) (fun _ h9 => h9) rfl dX12_write_58 ?_
            refine lv_iload_n hx hb dX12_write_61 rfl (lv_at hl 1 rfl) ?_
            have hin_9 := h.1
            have h := h.2
            refine va_iald hx hb hK hP 3 0 rfl rfl hin_9 dX12_write_62 ?_
            refine lv_iadd hx hb dX12_write_63 ?_
            refine lv_iload_n hx hb dX12_write_64 rfl (lv_at hl 2 rfl) ?_
            have hin_10 := h.1
            have h := h.2
            refine va_iast hx hb hK hP hD hS 4 0 rfl rfl hin_10 dX12_write_65 (fun H locs hP hD hS => ?_)
            obtain ⟨S10, eS10⟩ : ∃ z, z = ms S 4 (upd (S 4) ((60 * a1) + (S 3 (a1 : Int32).toNatClampNeg) : Int32).toNatClampNeg a2) := ⟨_, rfl⟩
            have hP : va_P D vwCl (mW cI cZ h0 q S10) H := by rw [eS10]; exact hP
            have hD : va_D A (mW cI cZ h0 q S10) := by rw [eS10]; exact hD
            have h := h S10 eS10
            refine lv_aload_n hx hb dX12_write_66 rfl (lv_at hl 0 rfl) ?_
            refine va_get (D := D) (ci := 12) (v := .ref (q 5)) (C := RX12) (T := TX12) (N := 52) hx hb hts (fun _ h => List.mem_cons_of_mem _ (List.mem_append_right _ h)) hown hK hP 0 rfl rfl 5 (by decide) (hts (.fieldLink RX12 22 "TemplateForgeModel" "operand" "[I") (List.mem_of_getElem? (i := 14) rfl)) (fun _ h9 => h9) rfl dX12_write_67 ?_
            refine lv_bipush (v := 60) hx hb dX12_write_70 (by decide) ?_
            refine lv_iload_n hx hb dX12_write_72 rfl (lv_at hl 1 rfl) ?_
            refine lv_imul hx hb dX12_write_73 ?_
            refine lv_aload_n hx hb dX12_write_74 rfl (lv_at hl 0 rfl) ?_
            refine va_get (D := D) (ci := 12) (v := .ref (q 3)) (C := RX12) (T := TX12) (N := 52) hx hb hts (fun _ h => List.mem_cons_of_mem _ (List.mem_append_right _ h)) hown hK hP 0 rfl rfl 3 (by decide) (hts (.fieldLink RX12 16 "TemplateForgeModel" "many" "[I") (List.mem_of_getElem? (i := 12) rfl)) (fun _ h9 => h9) rfl dX12_write_75 ?_
            refine lv_iload_n hx hb dX12_write_78 rfl (lv_at hl 1 rfl) ?_
            have hin_11 := h.1
            have h := h.2
            refine va_iald hx hb hK hP 3 0 rfl rfl hin_11 dX12_write_79 ?_
            refine lv_iadd hx hb dX12_write_80 ?_
            refine lv_iload_n hx hb dX12_write_81 rfl (lv_at hl 3 rfl) ?_
            have hin_12 := h.1
            have h := h.2
            refine va_iast hx hb hK hP hD hS 5 0 rfl rfl hin_12 dX12_write_82 (fun H locs hP hD hS => ?_)
            obtain ⟨S12, eS12⟩ : ∃ z, z = ms S10 5 (upd (S10 5) ((60 * a1) + (S10 3 (a1 : Int32).toNatClampNeg) : Int32).toNatClampNeg a3) := ⟨_, rfl⟩
            have hP : va_P D vwCl (mW cI cZ h0 q S12) H := by rw [eS12]; exact hP
            have hD : va_D A (mW cI cZ h0 q S12) := by rw [eS12]; exact hD
            have h := h S12 eS12
            refine lv_aload_n hx hb dX12_write_83 rfl (lv_at hl 0 rfl) ?_
            refine va_get (D := D) (ci := 12) (v := .ref (q 3)) (C := RX12) (T := TX12) (N := 52) hx hb hts (fun _ h => List.mem_cons_of_mem _ (List.mem_append_right _ h)) hown hK hP 0 rfl rfl 3 (by decide) (hts (.fieldLink RX12 16 "TemplateForgeModel" "many" "[I") (List.mem_of_getElem? (i := 12) rfl)) (fun _ h9 => h9) rfl dX12_write_84 ?_
            refine lv_iload_n hx hb dX12_write_87 rfl (lv_at hl 1 rfl) ?_
            refine lv_dup2_11 hx hb dX12_write_88 rfl rfl ?_
            have hin_13 := h.1
            have h := h.2
            refine va_iald hx hb hK hP 3 0 rfl rfl hin_13 dX12_write_89 ?_
            refine lv_iconst (v := 1) hx hb dX12_write_90 (by decide) ?_
            refine lv_iadd hx hb dX12_write_91 ?_
            have hin_14 := h.1
            have h := h.2
            refine va_iast hx hb hK hP hD hS 3 0 rfl rfl hin_14 dX12_write_92 (fun H locs hP hD hS => ?_)
            obtain ⟨S14, eS14⟩ : ∃ z, z = ms S12 3 (upd (S12 3) (a1 : Int32).toNatClampNeg ((S12 3 (a1 : Int32).toNatClampNeg) + 1)) := ⟨_, rfl⟩
            have hP : va_P D vwCl (mW cI cZ h0 q S14) H := by rw [eS14]; exact hP
            have hD : va_D A (mW cI cZ h0 q S14) := by rw [eS14]; exact hD
            have h := h S14 eS14
            refine lv_aload_n hx hb dX12_write_93 rfl (lv_at hl 0 rfl) ?_
            refine va_get (D := D) (ci := 12) (v := .ref (q 3)) (C := RX12) (T := TX12) (N := 52) hx hb hts (fun _ h => List.mem_cons_of_mem _ (List.mem_append_right _ h)) hown hK hP 0 rfl rfl 3 (by decide) (hts (.fieldLink RX12 16 "TemplateForgeModel" "many" "[I") (List.mem_of_getElem? (i := 12) rfl)) (fun _ h9 => h9) rfl dX12_write_94 ?_
            refine lv_iload_n hx hb dX12_write_97 rfl (lv_at hl 1 rfl) ?_
            have hin_15 := h.1
            have h := h.2
            refine va_iald hx hb hK hP 3 0 rfl rfl hin_15 dX12_write_98 ?_
            refine lv_iconst (v := 1) hx hb dX12_write_99 (by decide) ?_
            refine lv_isub hx hb dX12_write_100 ?_
            exact W.iret (v := (S14 3 (a1 : Int32).toNatClampNeg) - 1) hx hb hr (fun t ht hW => ⟨⟨_, S14, rfl, h, by rw [ht]; exact hP, hD⟩, hS.F ht⟩) hS.2.2 dX12_write_101
          · have h := h.2 c_8
            refine lv_bipush (v := (-4)) hx hb dX12_write_46 (by decide) ?_
            exact W.iret (v := (-4)) hx hb hr (fun t ht hW => ⟨⟨_, S, rfl, h, by rw [ht]; exact hP, hD⟩, hS.F ht⟩) hS.2.2 dX12_write_48
        · have h := h.2 c_6
          refine lv_bipush (v := (-3)) hx hb dX12_write_32 (by decide) ?_
          exact W.iret (v := (-3)) hx hb hr (fun t ht hW => ⟨⟨_, S, rfl, h, by rw [ht]; exact hP, hD⟩, hS.F ht⟩) hS.2.2 dX12_write_34
      · have h := h.2 c_4
        refine lv_bipush (v := (-2)) hx hb dX12_write_20 (by decide) ?_
        exact W.iret (v := (-2)) hx hb hr (fun t ht hW => ⟨⟨_, S, rfl, h, by rw [ht]; exact hP, hD⟩, hS.F ht⟩) hS.2.2 dX12_write_22
  exact key _ _ hP va_S.rf
