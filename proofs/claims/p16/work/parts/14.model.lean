def wj_X12_call_r_199 (S_199 : MST) (Post : MST → Prop) : Prop :=
  ∀ S1 : MST, S1 = ms S_199 37 (fun _ => (S_199 37 0) + 1) → (Post S1)
def wl_X12_call_r_93 (K_140 : MST → Int32 → Int32 → Int32 → Prop) (Post : MST → Prop) : Nat → MST → Int32 → Int32 → Int32 → Int32 → Prop
  | 0, _, _, _, _, _ => False
  | n_93 + 1, S_93, x93_1, x93_3, x93_5, x93_6 => ((15 ≤ x93_6) → ((K_140 S_93 x93_1 x93_3 x93_5))) ∧ ((¬ (15 ≤ x93_6)) → (vp_in x93_1 8 ∧ ((((S_93 1 (x93_1 : Int32).toNatClampNeg) ≤ x93_6) → (vp_in ((15 * x93_5) + x93_6) 240 ∧ (∀ S17 : MST, S17 = ms S_93 42 (upd (S_93 42) ((15 * x93_5) + x93_6 : Int32).toNatClampNeg 0) → (wl_X12_call_r_93 K_140 Post n_93 S17 x93_1 x93_3 x93_5 (x93_6 + 1))))) ∧ ((¬ ((S_93 1 (x93_1 : Int32).toNatClampNeg) ≤ x93_6)) → (vp_in (x93_3 + x93_6) 240 ∧ (vp_in ((15 * x93_5) + x93_6) 240 ∧ (∀ S19 : MST, S19 = ms S_93 42 (upd (S_93 42) ((15 * x93_5) + x93_6 : Int32).toNatClampNeg (S_93 42 (x93_3 + x93_6 : Int32).toNatClampNeg)) → (wl_X12_call_r_93 K_140 Post n_93 S19 x93_1 x93_3 x93_5 (x93_6 + 1)))))))))
def wj_X12_call_r_60 (S_60 : MST) (x60_1 : Int32) (x60_3 : Int32) (Post : MST → Prop) : Prop :=
  vp_in (S_60 37 0) 16 ∧ (∀ S2 : MST, S2 = ms S_60 38 (upd (S_60 38) (S_60 37 0 : Int32).toNatClampNeg x60_1) → (vp_in (S_60 37 0) 16 ∧ (∀ S3 : MST, S3 = ms S2 39 (upd (S2 39) (S_60 37 0 : Int32).toNatClampNeg 0) → (vp_in (S_60 37 0) 16 ∧ (∀ S4 : MST, S4 = ms S3 41 (upd (S3 41) (S_60 37 0 : Int32).toNatClampNeg 0) → (∃ n_93, wl_X12_call_r_93 (fun S_140 x140_1 x140_3 x140_5 => vp_in x140_1 8 ∧ (((((S_140 15 (x140_1 : Int32).toNatClampNeg) : Int32) = 0) → (vp_in x140_5 16 ∧ (∀ S7 : MST, S7 = ms S_140 40 (upd (S_140 40) (x140_5 : Int32).toNatClampNeg (-1)) → (wp_X12_remember_r S7 x140_1 x140_3 (fun S8 => wj_X12_call_r_199 S8  Post))))) ∧ ((¬ (((S_140 15 (x140_1 : Int32).toNatClampNeg) : Int32) = 0)) → (wp_X12_codeNow S_140 x140_1 (fun r9 => vp_in x140_5 16 ∧ (∀ S10 : MST, S10 = ms S_140 40 (upd (S_140 40) (x140_5 : Int32).toNatClampNeg r9) → (vp_in x140_1 8 ∧ (vp_in x140_1 8 ∧ (∀ S12 : MST, S12 = ms S10 19 (upd (S10 19) (x140_1 : Int32).toNatClampNeg ((S10 19 (x140_1 : Int32).toNatClampNeg) + 1)) → (∀ S13 : MST, S13 = ms S12 46 (fun _ => (S12 46 0) + 1) → (wj_X12_call_r_199 S13  Post))))))))))) Post n_93 S4 x60_1 x60_3 (S_60 37 0) 0))))))
def wp_X12_call_r (S : MST) (a1 : Int32) (a3 : Int32) (a4 : Int32) (Post : MST → Prop) : Prop :=
  ((¬ (((S 37 0) : Int32) = 16)) → (wp_X12_stepOn S  (fun S21 r21 => ((¬ ((r21 : Int32) = 0)) → (∀ S23 : MST, S23 = ms S21 45 (fun _ => (S21 45 0) + 1) → (vp_in a1 8 ∧ (((¬ (((S23 15 (a1 : Int32).toNatClampNeg) : Int32) = 0)) → (wj_X12_call_r_60 S23 a1 a3 Post)) ∧ ((((S23 15 (a1 : Int32).toNatClampNeg) : Int32) = 0) → (vp_in a1 8 ∧ (((¬ (((S23 16 (a1 : Int32).toNatClampNeg) : Int32) = 3)) → (wj_X12_call_r_60 S23 a1 a3 Post)) ∧ ((((S23 16 (a1 : Int32).toNatClampNeg) : Int32) = 3) → (wp_X12_makeCode S23 a1 (fun S28 => wj_X12_call_r_60 S28 a1 a3 Post)))))))))) ∧ (((r21 : Int32) = 0) → (Post S21))))) ∧ ((((S 37 0) : Int32) = 16) → (wp_X12_traps S 6 a4 (fun S29 => Post S29)))
def zw_zd_X12_call_r_w0 : List Cond := [.fieldLink RX12 236 "TemplateForgeModel" "open" "I", .fieldLink RX12 111 "TemplateForgeModel" "frameMethod" "[I", .fieldLink RX12 114 "TemplateForgeModel" "frameAt" "[I", .fieldLink RX12 120 "TemplateForgeModel" "frameDepth" "[I", .fieldLink RX12 50 "TemplateForgeModel" "hasCode" "[Z", .fieldLink RX12 117 "TemplateForgeModel" "frameCode" "[I", .code yX12_remember cX12_remember 6 none, .fieldLink RX12 53 "TemplateForgeModel" "counted" "[I", .fieldLink RX12 41 "TemplateForgeModel" "fields" "[I", .fieldLink RX12 68 "TemplateForgeModel" "isLike" "[Z", .fieldLink RX12 65 "TemplateForgeModel" "value" "[I", .fieldLink RX12 7 "TemplateForgeModel" "args" "[I", .methodLink RX12 255 yX12_remember, .instanceMethod yX12_remember, .selects RX12 yX12_remember yX12_remember, .initialized RX12]
def zw_zd_X12_call_r_w1 : List Cond := [.code yX12_codeNow cX12_codeNow 2 (some .int), .fieldLink RX12 56 "TemplateForgeModel" "madeCodes" "[I", .methodLink RX12 217 yX12_codeNow, .instanceMethod yX12_codeNow, .selects RX12 yX12_codeNow yX12_codeNow, .fieldLink RX12 62 "TemplateForgeModel" "codeCalls" "[I", .fieldLink RX12 252 "TemplateForgeModel" "callsByCode" "I", .fieldLink RX12 123 "TemplateForgeModel" "register" "[I", .code yX12_stepOn cX12_stepOn 1 (some .boolean), .fieldLink RX12 230 "TemplateForgeModel" "steps" "I", .fieldLink RX12 233 "TemplateForgeModel" "outcome" "I", .methodLink RX12 242 yX12_stepOn, .instanceMethod yX12_stepOn, .selects RX12 yX12_stepOn yX12_stepOn, .fieldLink RX12 246 "TemplateForgeModel" "calls" "I", .code yX12_makeCode cX12_makeCode 4 none]
def zw_zd_X12_call_r_w2 : List Cond := [.code yX12_assumes cX12_assumes 4 none, .code yX12_has cX12_has 6 (some .boolean), .fieldLink RX12 16 "TemplateForgeModel" "many" "[I", .fieldLink RX12 29 "TemplateForgeModel" "depths" "[I", .fieldLink RX12 19 "TemplateForgeModel" "op" "[I", .fieldLink RX12 22 "TemplateForgeModel" "operand" "[I", .methodLink RX12 178 yX12_has, .instanceMethod yX12_has, .selects RX12 yX12_has yX12_has, .fieldLink RX12 96 "TemplateForgeModel" "assumed" "[Z", .fieldLink RX12 71 "TemplateForgeModel" "doesVary" "[Z", .methodLink RX12 214 yX12_assumes, .instanceMethod yX12_assumes, .selects RX12 yX12_assumes yX12_assumes, .fieldLink RX12 181 "TemplateForgeModel" "code" "I", .fieldLink RX12 74 "TemplateForgeModel" "partMany" "[I"]
def zw_zd_X12_call_r_w3 : List Cond := [.fieldLink RX12 184 "TemplateForgeModel" "owner" "I", .code yX12_fieldGuards cX12_fieldGuards 3 none, .code yX12_part cX12_part 6 none, .fieldLink RX12 81 "TemplateForgeModel" "partOp" "[I", .fieldLink RX12 84 "TemplateForgeModel" "partD" "[I", .fieldLink RX12 87 "TemplateForgeModel" "partA" "[I", .fieldLink RX12 90 "TemplateForgeModel" "partB" "[I", .fieldLink RX12 93 "TemplateForgeModel" "partOf" "[I", .methodLink RX12 187 yX12_part, .instanceMethod yX12_part, .selects RX12 yX12_part yX12_part, .methodLink RX12 208 yX12_fieldGuards, .instanceMethod yX12_fieldGuards, .selects RX12 yX12_fieldGuards yX12_fieldGuards, .code yX12_begins cX12_begins 3 none, .fieldLink RX12 99 "TemplateForgeModel" "localKnown" "[Z"]
def zw_zd_X12_call_r_w4 : List Cond := [.fieldLink RX12 102 "TemplateForgeModel" "localIs" "[I", .fieldLink RX12 105 "TemplateForgeModel" "placeKnown" "[Z", .methodLink RX12 220 yX12_begins, .instanceMethod yX12_begins, .selects RX12 yX12_begins yX12_begins, .code yX12_isTarget cX12_isTarget 3 (some .boolean), .methodLink RX12 223 yX12_isTarget, .instanceMethod yX12_isTarget, .selects RX12 yX12_isTarget yX12_isTarget, .fieldLink RX12 77 "TemplateForgeModel" "starts" "[I", .code yX12_make cX12_make 7 none, .code yX12_makeTwo cX12_makeTwo 5 none, .code yX12_layOne cX12_layOne 2 none, .fieldLink RX12 108 "TemplateForgeModel" "placeIs" "[I", .methodLink RX12 191 yX12_layOne, .instanceMethod yX12_layOne]
def zw_zd_X12_call_r_w5 : List Cond := [.selects RX12 yX12_layOne yX12_layOne, .code yX12_sumOf cX12_sumOf 3 (some .int), .methodLink RX12 195 yX12_sumOf, .static yX12_sumOf, .methodLink RX12 211 yX12_makeTwo, .instanceMethod yX12_makeTwo, .selects RX12 yX12_makeTwo yX12_makeTwo, .code yX12_knows cX12_knows 3 none, .methodLink RX12 201 yX12_knows, .instanceMethod yX12_knows, .selects RX12 yX12_knows yX12_knows, .code yX12_layAll cX12_layAll 3 none, .methodLink RX12 198 yX12_layAll, .instanceMethod yX12_layAll, .selects RX12 yX12_layAll yX12_layAll, .code yX12_makeWhen cX12_makeWhen 3 none]
def zw_zd_X12_call_r_w6 : List Cond := [.methodLink RX12 205 yX12_makeWhen, .instanceMethod yX12_makeWhen, .selects RX12 yX12_makeWhen yX12_makeWhen, .methodLink RX12 227 yX12_make, .instanceMethod yX12_make, .selects RX12 yX12_make yX12_make, .methodLink RX12 249 yX12_makeCode, .instanceMethod yX12_makeCode, .selects RX12 yX12_makeCode yX12_makeCode, .code yX12_traps cX12_traps 3 none, .fieldLink RX12 126 "TemplateForgeModel" "trap" "[I", .methodLink RX12 239 yX12_traps, .instanceMethod yX12_traps, .selects RX12 yX12_traps yX12_traps]
def zw_zd_X12_call_r : List Cond := .code yX12_call cX12_call 7 none :: ((zw_zd_X12_call_r_w0 ++ (zw_zd_X12_call_r_w1 ++ (zw_zd_X12_call_r_w2 ++ (zw_zd_X12_call_r_w3 ++ (zw_zd_X12_call_r_w4 ++ (zw_zd_X12_call_r_w5 ++ (zw_zd_X12_call_r_w6))))))) ++ wsX120)
set_option maxRecDepth 100000 in
theorem zg_zd_X12_call_r_zd_X12_remember_r_255_a : GoodIn zw_zd_X12_call_r [.methodLink RX12 255 yX12_remember, .instanceMethod yX12_remember, .selects RX12 yX12_remember yX12_remember, .initialized RX12] := goodIn_r _ [13, 14, 15, 16] rfl (by decide +kernel)
set_option maxRecDepth 100000 in
theorem zg_zd_X12_call_r_zd_X12_remember_r_255_c : GoodIn zw_zd_X12_call_r [.code yX12_remember cX12_remember 6 none] := goodIn_r _ [7] rfl (by decide +kernel)
set_option maxRecDepth 100000 in
theorem zg_zd_X12_call_r_zd_X12_remember_r_255_0 : GoodIn zw_zd_X12_call_r zw_zd_X12_remember_r_w0 := goodIn_r _ [8, 9, 10, 11, 12] rfl (by decide +kernel)
theorem zg_zd_X12_call_r_zd_X12_remember_r_255 : GoodIn zw_zd_X12_call_r (wsV RX12 255 RX12 yX12_remember zw_zd_X12_remember_r) := goodIn_app zg_zd_X12_call_r_zd_X12_remember_r_255_a (goodIn_ca (a := (zw_zd_X12_remember_r_w0)) (show GoodIn zw_zd_X12_call_r (.code yX12_remember cX12_remember 6 none :: (zw_zd_X12_remember_r_w0)) from goodIn_app zg_zd_X12_call_r_zd_X12_remember_r_255_c (zg_zd_X12_call_r_zd_X12_remember_r_255_0)) (fun w h => ⟨(fun _ h => List.mem_cons_of_mem _ (List.mem_append_right _ h)) w h, good_of_word (List.all_eq_true.mp zgw_X12 w h)⟩))
set_option maxRecDepth 100000 in
theorem zg_zd_X12_call_r_zd_X12_codeNow_217_a : GoodIn zw_zd_X12_call_r [.methodLink RX12 217 yX12_codeNow, .instanceMethod yX12_codeNow, .selects RX12 yX12_codeNow yX12_codeNow, .initialized RX12] := goodIn_r _ [19, 20, 21, 16] rfl (by decide +kernel)
set_option maxRecDepth 100000 in
theorem zg_zd_X12_call_r_zd_X12_codeNow_217_c : GoodIn zw_zd_X12_call_r [.code yX12_codeNow cX12_codeNow 2 (some .int)] := goodIn_r _ [17] rfl (by decide +kernel)
set_option maxRecDepth 100000 in
theorem zg_zd_X12_call_r_zd_X12_codeNow_217_0 : GoodIn zw_zd_X12_call_r zw_zd_X12_codeNow_w0 := goodIn_r _ [18] rfl (by decide +kernel)
theorem zg_zd_X12_call_r_zd_X12_codeNow_217 : GoodIn zw_zd_X12_call_r (wsV RX12 217 RX12 yX12_codeNow zw_zd_X12_codeNow) := goodIn_app zg_zd_X12_call_r_zd_X12_codeNow_217_a (goodIn_ca (a := (zw_zd_X12_codeNow_w0)) (show GoodIn zw_zd_X12_call_r (.code yX12_codeNow cX12_codeNow 2 (some .int) :: (zw_zd_X12_codeNow_w0)) from goodIn_app zg_zd_X12_call_r_zd_X12_codeNow_217_c (zg_zd_X12_call_r_zd_X12_codeNow_217_0)) (fun w h => ⟨(fun _ h => List.mem_cons_of_mem _ (List.mem_append_right _ h)) w h, good_of_word (List.all_eq_true.mp zgw_X12 w h)⟩))
set_option maxRecDepth 100000 in
theorem zg_zd_X12_call_r_zd_X12_stepOn_242_a : GoodIn zw_zd_X12_call_r [.methodLink RX12 242 yX12_stepOn, .instanceMethod yX12_stepOn, .selects RX12 yX12_stepOn yX12_stepOn, .initialized RX12] := goodIn_r _ [28, 29, 30, 16] rfl (by decide +kernel)
set_option maxRecDepth 100000 in
theorem zg_zd_X12_call_r_zd_X12_stepOn_242_c : GoodIn zw_zd_X12_call_r [.code yX12_stepOn cX12_stepOn 1 (some .boolean)] := goodIn_r _ [25] rfl (by decide +kernel)
set_option maxRecDepth 100000 in
theorem zg_zd_X12_call_r_zd_X12_stepOn_242_0 : GoodIn zw_zd_X12_call_r zw_zd_X12_stepOn_w0 := goodIn_r _ [26, 27] rfl (by decide +kernel)
theorem zg_zd_X12_call_r_zd_X12_stepOn_242 : GoodIn zw_zd_X12_call_r (wsV RX12 242 RX12 yX12_stepOn zw_zd_X12_stepOn) := goodIn_app zg_zd_X12_call_r_zd_X12_stepOn_242_a (goodIn_ca (a := (zw_zd_X12_stepOn_w0)) (show GoodIn zw_zd_X12_call_r (.code yX12_stepOn cX12_stepOn 1 (some .boolean) :: (zw_zd_X12_stepOn_w0)) from goodIn_app zg_zd_X12_call_r_zd_X12_stepOn_242_c (zg_zd_X12_call_r_zd_X12_stepOn_242_0)) (fun w h => ⟨(fun _ h => List.mem_cons_of_mem _ (List.mem_append_right _ h)) w h, good_of_word (List.all_eq_true.mp zgw_X12 w h)⟩))
set_option maxRecDepth 100000 in
theorem zg_zd_X12_call_r_zd_X12_makeCode_249_a : GoodIn zw_zd_X12_call_r [.methodLink RX12 249 yX12_makeCode, .instanceMethod yX12_makeCode, .selects RX12 yX12_makeCode yX12_makeCode, .initialized RX12] := goodIn_r _ [103, 104, 105, 16] rfl (by decide +kernel)
set_option maxRecDepth 100000 in
theorem zg_zd_X12_call_r_zd_X12_makeCode_249_c : GoodIn zw_zd_X12_call_r [.code yX12_makeCode cX12_makeCode 4 none] := goodIn_r _ [32] rfl (by decide +kernel)
set_option maxRecDepth 100000 in
theorem zg_zd_X12_call_r_zd_X12_makeCode_249_0 : GoodIn zw_zd_X12_call_r zw_zd_X12_makeCode_w0 := goodIn_r _ [33, 34, 35, 36, 37, 38, 39, 40, 41, 16, 42, 43, 10, 12, 44, 45] rfl (by decide +kernel)
set_option maxRecDepth 100000 in
theorem zg_zd_X12_call_r_zd_X12_makeCode_249_1 : GoodIn zw_zd_X12_call_r zw_zd_X12_makeCode_w1 := goodIn_r _ [46, 18, 5, 17, 19, 20, 21, 47, 48, 49, 50, 11, 51, 52, 53, 54] rfl (by decide +kernel)
set_option maxRecDepth 100000 in
theorem zg_zd_X12_call_r_zd_X12_makeCode_249_2 : GoodIn zw_zd_X12_call_r zw_zd_X12_makeCode_w2 := goodIn_r _ [55, 56, 57, 58, 59, 60, 61, 62, 63, 64, 65, 66, 67, 68, 69, 70] rfl (by decide +kernel)
set_option maxRecDepth 100000 in
theorem zg_zd_X12_call_r_zd_X12_makeCode_249_3 : GoodIn zw_zd_X12_call_r zw_zd_X12_makeCode_w3 := goodIn_r _ [71, 72, 73, 74, 75, 76, 77, 78, 79, 80, 81, 82, 83, 84, 85, 86] rfl (by decide +kernel)
set_option maxRecDepth 100000 in
theorem zg_zd_X12_call_r_zd_X12_makeCode_249_4 : GoodIn zw_zd_X12_call_r zw_zd_X12_makeCode_w4 := goodIn_r _ [87, 88, 89, 90, 91, 92, 93, 94, 95, 96, 97, 98, 99, 100, 101, 102] rfl (by decide +kernel)
theorem zg_zd_X12_call_r_zd_X12_makeCode_249 : GoodIn zw_zd_X12_call_r (wsV RX12 249 RX12 yX12_makeCode zw_zd_X12_makeCode) := goodIn_app zg_zd_X12_call_r_zd_X12_makeCode_249_a (goodIn_ca (a := (zw_zd_X12_makeCode_w0 ++ (zw_zd_X12_makeCode_w1 ++ (zw_zd_X12_makeCode_w2 ++ (zw_zd_X12_makeCode_w3 ++ (zw_zd_X12_makeCode_w4)))))) (show GoodIn zw_zd_X12_call_r (.code yX12_makeCode cX12_makeCode 4 none :: (zw_zd_X12_makeCode_w0 ++ (zw_zd_X12_makeCode_w1 ++ (zw_zd_X12_makeCode_w2 ++ (zw_zd_X12_makeCode_w3 ++ (zw_zd_X12_makeCode_w4)))))) from goodIn_app zg_zd_X12_call_r_zd_X12_makeCode_249_c (goodIn_app zg_zd_X12_call_r_zd_X12_makeCode_249_0 (goodIn_app zg_zd_X12_call_r_zd_X12_makeCode_249_1 (goodIn_app zg_zd_X12_call_r_zd_X12_makeCode_249_2 (goodIn_app zg_zd_X12_call_r_zd_X12_makeCode_249_3 (zg_zd_X12_call_r_zd_X12_makeCode_249_4)))))) (fun w h => ⟨(fun _ h => List.mem_cons_of_mem _ (List.mem_append_right _ h)) w h, good_of_word (List.all_eq_true.mp zgw_X12 w h)⟩))
set_option maxRecDepth 100000 in
theorem zg_zd_X12_call_r_zd_X12_traps_239_a : GoodIn zw_zd_X12_call_r [.methodLink RX12 239 yX12_traps, .instanceMethod yX12_traps, .selects RX12 yX12_traps yX12_traps, .initialized RX12] := goodIn_r _ [108, 109, 110, 16] rfl (by decide +kernel)
set_option maxRecDepth 100000 in
theorem zg_zd_X12_call_r_zd_X12_traps_239_c : GoodIn zw_zd_X12_call_r [.code yX12_traps cX12_traps 3 none] := goodIn_r _ [106] rfl (by decide +kernel)
set_option maxRecDepth 100000 in
theorem zg_zd_X12_call_r_zd_X12_traps_239_0 : GoodIn zw_zd_X12_call_r zw_zd_X12_traps_w0 := goodIn_r _ [27, 107, 2, 1] rfl (by decide +kernel)
theorem zg_zd_X12_call_r_zd_X12_traps_239 : GoodIn zw_zd_X12_call_r (wsV RX12 239 RX12 yX12_traps zw_zd_X12_traps) := goodIn_app zg_zd_X12_call_r_zd_X12_traps_239_a (goodIn_ca (a := (zw_zd_X12_traps_w0)) (show GoodIn zw_zd_X12_call_r (.code yX12_traps cX12_traps 3 none :: (zw_zd_X12_traps_w0)) from goodIn_app zg_zd_X12_call_r_zd_X12_traps_239_c (zg_zd_X12_call_r_zd_X12_traps_239_0)) (fun w h => ⟨(fun _ h => List.mem_cons_of_mem _ (List.mem_append_right _ h)) w h, good_of_word (List.all_eq_true.mp zgw_X12 w h)⟩))
set_option maxHeartbeats 16000000 in
set_option maxRecDepth 100000 in
theorem zd_X12_call_r (l : Launch) (D : va_G) (cI cZ cP cF : Nat) (h0 : Nat) (q : Nat → Nat) (S : MST) (a1 : Int32) (a3 : Int32) (a4 : Int32) (sz : Nat) (Post : MST → Prop) (h : wp_X12_call_r S a1 a3 a4 Post) : Met l yX12_call zw_zd_X12_call_r ({ frames := 6, cells := 0, slots := 0, locals := 139 }) (va_Pc [.ref h0, .int a1, .ref (q 42), .int a3, .int a4] (fun U => U.heap.size = sz ∧ va_P D vwCl (mW cI cZ h0 q S) U.heap ∧ zE D cI cZ cP cF U ∧ va_D (fun _ => True) (mW cI cZ h0 q S))) (va_Qv (fun S' => Post S') (fun (S' : MST) t => va_P D vwCl (mW cI cZ h0 q S') t.heap ∧ va_D (va_A (mW cI cZ h0 q S) sz) (mW cI cZ h0 q S')) (va_A (mW cI cZ h0 q S) sz)) 0 0 (va_A (mW cI cZ h0 q S) sz) := by
  unfold wp_X12_call_r at h
  refine Met.ofW (cc := cX12_call) (maxL := 7) (ret := none) (by decide) rfl ?_
  intro p e s m args below meth c s₁ B hml hv
  obtain ⟨rfl, hsz, hP, hE, hD0⟩ := hv
  have hx := B.exec
  have hb := B.bytes
  have hr := B.returns
  have hts := atoms_spec (ws := zw_zd_X12_call_r) B.pre
  have hown : s.vm.findClass RX12 = some m.cls := findClass_of_methodNamed B.named
  have hlocks := B.notSynchronized
  have hK := hE.k
  subst hsz
  have hD := hD0.self (sz := s.heap.size)
  generalize hAe : va_A (mW cI cZ h0 q S) s.heap.size = A at hD ⊢
  have hA : ∀ q : Nat, s.heap.size ≤ q → A q := fun q h => by rw [← hAe]; exact Or.inr h
  have hl := lv_entry ([.ref h0, .int a1, .ref (q 42), .int a3, .int a4]) (n := 7) (Nat.le_of_ble_eq_true rfl)
  rw [lg_entry_eq]
  generalize (lg_sl ([.ref h0, .int a1, .ref (q 42), .int a3, .int a4]) ++ List.replicate (7 - (lg_sl ([.ref h0, .int a1, .ref (q 42), .int a3, .int a4])).length) Slot.unset).toArray = ls at hl ⊢
  have hl : lv_has ls 7 [(0, .ref h0), (1, .int a1), (2, .ref (q 42)), (3, .int a3), (4, .int a4)] := hl
  have key : ∀ (H : Heap) (locs : List Loc), va_P D vwCl (mW cI cZ h0 q S) H → va_S A s.heap H locs → W p l e (headSpec zw_zd_X12_call_r ({ frames := 6, cells := 0, slots := 0, locals := 139 })).room s m ([.ref h0, .int a1, .ref (q 42), .int a3, .int a4] : List Value).toArray below meth c H locs 0 0 (MQ below (va_Qv (fun S' => Post S') (fun (S' : MST) t => va_P D vwCl (mW cI cZ h0 q S') t.heap ∧ va_D A (mW cI cZ h0 q S')) A) ([.ref h0, .int a1, .ref (q 42), .int a3, .int a4] : List Value).toArray s 0 0 A) (F0 m 0 ls []) := by
    intro H locs hP hS
    have J_199 : ∀ (S_199 : MST) (H : Heap) (locs : List Loc) (ls : Array Slot), wj_X12_call_r_199 S_199  Post → va_P D vwCl (mW cI cZ h0 q S_199) H → va_D A (mW cI cZ h0 q S_199) → va_S A s.heap H locs → lv_has ls 7 [(0, .ref h0)] → W p l e (headSpec zw_zd_X12_call_r ({ frames := 6, cells := 0, slots := 0, locals := 139 })).room s m ([.ref h0, .int a1, .ref (q 42), .int a3, .int a4] : List Value).toArray below meth c H locs 0 0 (MQ below (va_Qv (fun S' => Post S') (fun (S' : MST) t => va_P D vwCl (mW cI cZ h0 q S') t.heap ∧ va_D A (mW cI cZ h0 q S')) A) ([.ref h0, .int a1, .ref (q 42), .int a3, .int a4] : List Value).toArray s 0 0 A) (F0 m 199 ls []) := by
      intro S_199  H locs ls h hP hD hS hl
      unfold wj_X12_call_r_199 at h
      refine lv_aload_n hx hb dX12_call_199 rfl (lv_at hl 0 rfl) ?_
      refine lv_dup hx hb dX12_call_200 rfl ?_
      refine va_get (D := D) (ci := 12) (v := .int (S_199 37 0)) (C := RX12) (T := TX12) (N := 52) hx hb hts (fun _ h => List.mem_cons_of_mem _ (List.mem_append_right _ h)) hown hK hP 0 rfl rfl 37 (by decide) (hts (.fieldLink RX12 236 "TemplateForgeModel" "open" "I") (List.mem_of_getElem? (i := 1) rfl)) (fun _ h9 => h9) rfl dX12_call_201 ?_
      refine lv_iconst (v := 1) hx hb dX12_call_204 (by decide) ?_
      refine lv_iadd hx hb dX12_call_205 ?_
      refine va_put (D := D) (ci := 12) (v := .int ((S_199 37 0) + 1)) (ty := .int) (C := RX12) (T := TX12) (N := 52) hx hb hts (fun _ h => List.mem_cons_of_mem _ (List.mem_append_right _ h)) tyX12 tyX12_ok nmX12 hown hK hP hD hS 0 rfl rfl 37 (by decide) (hts (.fieldLink RX12 236 "TemplateForgeModel" "open" "I") (List.mem_of_getElem? (i := 1) rfl)) (fun _ h9 => h9) rfl (by decide +kernel) rfl rfl (Nat.le_of_ble_eq_true rfl) dX12_call_206 (fun H locs hP hD hS => ?_)
      obtain ⟨S1, eS1⟩ : ∃ z, z = ms S_199 37 (fun _ => (S_199 37 0) + 1) := ⟨_, rfl⟩
      have hP : va_P D vwCl (mW cI cZ h0 q S1) H := by rw [eS1]; exact hP
      have hD : va_D A (mW cI cZ h0 q S1) := by rw [eS1]; exact hD
      have h := h S1 eS1
      exact W.vret hx hb hr (fun t ht hW => ⟨⟨S1, rfl, h, by rw [ht]; exact hP, hD⟩, hS.F ht⟩) hS.2.2 dX12_call_209
    have J_60 : ∀ (S_60 : MST) (x60_1 : Int32) (x60_3 : Int32) (H : Heap) (locs : List Loc) (ls : Array Slot), wj_X12_call_r_60 S_60 x60_1 x60_3 Post → va_P D vwCl (mW cI cZ h0 q S_60) H → va_D A (mW cI cZ h0 q S_60) → va_S A s.heap H locs → lv_has ls 7 [(0, .ref h0), (1, .int x60_1), (2, .ref (q 42)), (3, .int x60_3)] → W p l e (headSpec zw_zd_X12_call_r ({ frames := 6, cells := 0, slots := 0, locals := 139 })).room s m ([.ref h0, .int a1, .ref (q 42), .int a3, .int a4] : List Value).toArray below meth c H locs 0 0 (MQ below (va_Qv (fun S' => Post S') (fun (S' : MST) t => va_P D vwCl (mW cI cZ h0 q S') t.heap ∧ va_D A (mW cI cZ h0 q S')) A) ([.ref h0, .int a1, .ref (q 42), .int a3, .int a4] : List Value).toArray s 0 0 A) (F0 m 60 ls []) := by
      intro S_60 x60_1 x60_3 H locs ls h hP hD hS hl
      unfold wj_X12_call_r_60 at h
      refine lv_aload_n hx hb dX12_call_60 rfl (lv_at hl 0 rfl) ?_
      refine va_get (D := D) (ci := 12) (v := .int (S_60 37 0)) (C := RX12) (T := TX12) (N := 52) hx hb hts (fun _ h => List.mem_cons_of_mem _ (List.mem_append_right _ h)) hown hK hP 0 rfl rfl 37 (by decide) (hts (.fieldLink RX12 236 "TemplateForgeModel" "open" "I") (List.mem_of_getElem? (i := 1) rfl)) (fun _ h9 => h9) rfl dX12_call_61 ?_
      refine lv_istore (lv' := [(5, .int (S_60 37 0)), (0, .ref h0), (1, .int x60_1), (2, .ref (q 42)), (3, .int x60_3)]) hx hb dX12_call_64 hl (by decide) rfl (fun ls hl => ?_)
      refine lv_aload_n hx hb dX12_call_66 rfl (lv_at hl 1 rfl) ?_
      refine va_get (D := D) (ci := 12) (v := .ref (q 38)) (C := RX12) (T := TX12) (N := 52) hx hb hts (fun _ h => List.mem_cons_of_mem _ (List.mem_append_right _ h)) hown hK hP 0 rfl rfl 38 (by decide) (hts (.fieldLink RX12 111 "TemplateForgeModel" "frameMethod" "[I") (List.mem_of_getElem? (i := 2) rfl)) (fun _ h9 => h9) rfl dX12_call_67 ?_
      refine lv_iload hx hb dX12_call_70 (lv_at hl 0 rfl) ?_
      refine lv_iload_n hx hb dX12_call_72 rfl (lv_at hl 2 rfl) ?_
      have hin_2 := h.1
      have h := h.2
      refine va_iast hx hb hK hP hD hS 34 0 rfl rfl hin_2 dX12_call_73 (fun H locs hP hD hS => ?_)
      obtain ⟨S2, eS2⟩ : ∃ z, z = ms S_60 38 (upd (S_60 38) (S_60 37 0 : Int32).toNatClampNeg x60_1) := ⟨_, rfl⟩
      have hP : va_P D vwCl (mW cI cZ h0 q S2) H := by rw [eS2]; exact hP
      have hD : va_D A (mW cI cZ h0 q S2) := by rw [eS2]; exact hD
      have h := h S2 eS2
      refine lv_aload_n hx hb dX12_call_74 rfl (lv_at hl 1 rfl) ?_
      refine va_get (D := D) (ci := 12) (v := .ref (q 39)) (C := RX12) (T := TX12) (N := 52) hx hb hts (fun _ h => List.mem_cons_of_mem _ (List.mem_append_right _ h)) hown hK hP 0 rfl rfl 39 (by decide) (hts (.fieldLink RX12 114 "TemplateForgeModel" "frameAt" "[I") (List.mem_of_getElem? (i := 3) rfl)) (fun _ h9 => h9) rfl dX12_call_75 ?_
      refine lv_iload hx hb dX12_call_78 (lv_at hl 0 rfl) ?_
      refine lv_iconst (v := 0) hx hb dX12_call_80 (by decide) ?_
      have hin_3 := h.1
      have h := h.2
      refine va_iast hx hb hK hP hD hS 35 0 rfl rfl hin_3 dX12_call_81 (fun H locs hP hD hS => ?_)
      obtain ⟨S3, eS3⟩ : ∃ z, z = ms S2 39 (upd (S2 39) (S_60 37 0 : Int32).toNatClampNeg 0) := ⟨_, rfl⟩
      have hP : va_P D vwCl (mW cI cZ h0 q S3) H := by rw [eS3]; exact hP
      have hD : va_D A (mW cI cZ h0 q S3) := by rw [eS3]; exact hD
      have h := h S3 eS3
      refine lv_aload_n hx hb dX12_call_82 rfl (lv_at hl 1 rfl) ?_
      refine va_get (D := D) (ci := 12) (v := .ref (q 41)) (C := RX12) (T := TX12) (N := 52) hx hb hts (fun _ h => List.mem_cons_of_mem _ (List.mem_append_right _ h)) hown hK hP 0 rfl rfl 41 (by decide) (hts (.fieldLink RX12 120 "TemplateForgeModel" "frameDepth" "[I") (List.mem_of_getElem? (i := 4) rfl)) (fun _ h9 => h9) rfl dX12_call_83 ?_
      refine lv_iload hx hb dX12_call_86 (lv_at hl 0 rfl) ?_
      refine lv_iconst (v := 0) hx hb dX12_call_88 (by decide) ?_
      have hin_4 := h.1
      have h := h.2
      refine va_iast hx hb hK hP hD hS 37 0 rfl rfl hin_4 dX12_call_89 (fun H locs hP hD hS => ?_)
      obtain ⟨S4, eS4⟩ : ∃ z, z = ms S3 41 (upd (S3 41) (S_60 37 0 : Int32).toNatClampNeg 0) := ⟨_, rfl⟩
      have hP : va_P D vwCl (mW cI cZ h0 q S4) H := by rw [eS4]; exact hP
      have hD : va_D A (mW cI cZ h0 q S4) := by rw [eS4]; exact hD
      have h := h S4 eS4
      refine lv_iconst (v := 0) hx hb dX12_call_90 (by decide) ?_
      refine lv_istore (lv' := [(6, .int 0), (5, .int (S_60 37 0)), (0, .ref h0), (1, .int x60_1), (2, .ref (q 42)), (3, .int x60_3)]) hx hb dX12_call_91 hl (by decide) rfl (fun ls hl => ?_)
      have EX_93_140 : ∀ (S_140 : MST) (x140_1 : Int32) (x140_3 : Int32) (x140_5 : Int32) (H : Heap) (locs : List Loc) (ls : Array Slot), (vp_in x140_1 8 ∧ (((((S_140 15 (x140_1 : Int32).toNatClampNeg) : Int32) = 0) → (vp_in x140_5 16 ∧ (∀ S7 : MST, S7 = ms S_140 40 (upd (S_140 40) (x140_5 : Int32).toNatClampNeg (-1)) → (wp_X12_remember_r S7 x140_1 x140_3 (fun S8 => wj_X12_call_r_199 S8  Post))))) ∧ ((¬ (((S_140 15 (x140_1 : Int32).toNatClampNeg) : Int32) = 0)) → (wp_X12_codeNow S_140 x140_1 (fun r9 => vp_in x140_5 16 ∧ (∀ S10 : MST, S10 = ms S_140 40 (upd (S_140 40) (x140_5 : Int32).toNatClampNeg r9) → (vp_in x140_1 8 ∧ (vp_in x140_1 8 ∧ (∀ S12 : MST, S12 = ms S10 19 (upd (S10 19) (x140_1 : Int32).toNatClampNeg ((S10 19 (x140_1 : Int32).toNatClampNeg) + 1)) → (∀ S13 : MST, S13 = ms S12 46 (fun _ => (S12 46 0) + 1) → (wj_X12_call_r_199 S13  Post))))))))))) → va_P D vwCl (mW cI cZ h0 q S_140) H → va_D A (mW cI cZ h0 q S_140) → va_S A s.heap H locs → lv_has ls 7 [(0, .ref h0), (1, .int x140_1), (2, .ref (q 42)), (3, .int x140_3), (5, .int x140_5)] → W p l e (headSpec zw_zd_X12_call_r ({ frames := 6, cells := 0, slots := 0, locals := 139 })).room s m ([.ref h0, .int a1, .ref (q 42), .int a3, .int a4] : List Value).toArray below meth c H locs 0 0 (MQ below (va_Qv (fun S' => Post S') (fun (S' : MST) t => va_P D vwCl (mW cI cZ h0 q S') t.heap ∧ va_D A (mW cI cZ h0 q S')) A) ([.ref h0, .int a1, .ref (q 42), .int a3, .int a4] : List Value).toArray s 0 0 A) (F0 m 140 ls []) := by
        intro S_140 x140_1 x140_3 x140_5 H locs ls h hP hD hS hl
        refine lv_aload_n hx hb dX12_call_140 rfl (lv_at hl 0 rfl) ?_
        refine va_get (D := D) (ci := 12) (v := .ref (q 15)) (C := RX12) (T := TX12) (N := 52) hx hb hts (fun _ h => List.mem_cons_of_mem _ (List.mem_append_right _ h)) hown hK hP 0 rfl rfl 15 (by decide) (hts (.fieldLink RX12 50 "TemplateForgeModel" "hasCode" "[Z") (List.mem_of_getElem? (i := 5) rfl)) (fun _ h9 => h9) rfl dX12_call_141 ?_
        refine lv_iload_n hx hb dX12_call_144 rfl (lv_at hl 1 rfl) ?_
        have hin_5 := h.1
        have h := h.2
        refine va_zald hx hb hK hP 14 1 rfl rfl hin_5 dX12_call_145 ?_
        refine lv_if_eq (tgt := 184) hx hb dX12_call_146 (by decide) (fun c_6 => ?_) (fun c_6 => ?_)
        · have h := h.1 c_6
          refine lv_aload_n hx hb dX12_call_184 rfl (lv_at hl 0 rfl) ?_
          refine va_get (D := D) (ci := 12) (v := .ref (q 40)) (C := RX12) (T := TX12) (N := 52) hx hb hts (fun _ h => List.mem_cons_of_mem _ (List.mem_append_right _ h)) hown hK hP 0 rfl rfl 40 (by decide) (hts (.fieldLink RX12 117 "TemplateForgeModel" "frameCode" "[I") (List.mem_of_getElem? (i := 6) rfl)) (fun _ h9 => h9) rfl dX12_call_185 ?_
          refine lv_iload hx hb dX12_call_188 (lv_at hl 4 rfl) ?_
          refine lv_iconst (v := (-1)) hx hb dX12_call_190 (by decide) ?_
          have hin_7 := h.1
          have h := h.2
          refine va_iast hx hb hK hP hD hS 36 0 rfl rfl hin_7 dX12_call_191 (fun H locs hP hD hS => ?_)
          obtain ⟨S7, eS7⟩ : ∃ z, z = ms S_140 40 (upd (S_140 40) (x140_5 : Int32).toNatClampNeg (-1)) := ⟨_, rfl⟩
          have hP : va_P D vwCl (mW cI cZ h0 q S7) H := by rw [eS7]; exact hP
          have hD : va_D A (mW cI cZ h0 q S7) := by rw [eS7]; exact hD
          have h := h S7 eS7
          refine lv_aload_n hx hb dX12_call_192 rfl (lv_at hl 0 rfl) ?_
          refine lv_iload_n hx hb dX12_call_193 rfl (lv_at hl 1 rfl) ?_
          refine lv_aload_n hx hb dX12_call_194 rfl (lv_at hl 2 rfl) ?_
          refine lv_iload_n hx hb dX12_call_195 rfl (lv_at hl 3 rfl) ?_
          have hFc := zm_free hD hS hA
          refine va_callv (va_runV (As := [.int x140_1, .ref (q 42), .int x140_3]) (rest := []) ⟨hx, hb, hml, hown, hts⟩ (zd_X12_remember_r l D cI cZ cP cF h0 q S7 x140_1 x140_3 H.size _ h) (cwV 3 hts zg_zd_X12_call_r_zd_X12_remember_r_255 rfl rfl rfl (by decide +kernel) ⟨Nat.le_of_ble_eq_true rfl, Nat.le_of_ble_eq_true rfl⟩) ⟨zBW, va_recv hK hP (ci := 12) (q0 := 0) rfl rfl, fun U hU hW => ⟨rfl, by rw [hU], by rw [hU]; exact hP, hE.warm hW, hD.weaken (fun _ _ _ _ => trivial)⟩⟩ rfl rfl hl.1 rfl (lv_room (Nat.le_of_ble_eq_true rfl)) dX12_call_196 ⟨Nat.le_of_ble_eq_true rfl, Nat.le_of_ble_eq_true rfl⟩) hS (fun q _ h => hFc q h) hFc (fun S8 t H locs ht hvm h hB hz1 hk1 hS => ?_)
          obtain ⟨hP, hD1⟩ := hB
          rw [ht] at hP
          have hD := hD1.weaken (fun k q _ hq => hFc q.1 hq)
          exact J_199  S8  H locs _ h hP hD hS (lv_sub hl [0] rfl)
        · have h := h.2 c_6
          refine lv_aload_n hx hb dX12_call_149 rfl (lv_at hl 0 rfl) ?_
          refine va_get (D := D) (ci := 12) (v := .ref (q 40)) (C := RX12) (T := TX12) (N := 52) hx hb hts (fun _ h => List.mem_cons_of_mem _ (List.mem_append_right _ h)) hown hK hP 0 rfl rfl 40 (by decide) (hts (.fieldLink RX12 117 "TemplateForgeModel" "frameCode" "[I") (List.mem_of_getElem? (i := 6) rfl)) (fun _ h9 => h9) rfl dX12_call_150 ?_
          refine lv_iload hx hb dX12_call_153 (lv_at hl 4 rfl) ?_
          refine lv_aload_n hx hb dX12_call_155 rfl (lv_at hl 0 rfl) ?_
          refine lv_iload_n hx hb dX12_call_156 rfl (lv_at hl 1 rfl) ?_
          refine vp_callSi (va_Run.run (va_runV (As := [.int x140_1]) (rest := [.int x140_5, .ref (q 40)]) ⟨hx, hb, hml, hown, hts⟩ (zd_X12_codeNow l D cI cZ cP cF h0 q S_140 x140_1  _ h) (cwV 1 hts zg_zd_X12_call_r_zd_X12_codeNow_217 rfl rfl rfl (by decide +kernel) ⟨Nat.le_of_ble_eq_true rfl, Nat.le_of_ble_eq_true rfl⟩) ⟨zBR, va_recv hK hP (ci := 12) (q0 := 0) rfl rfl, fun U hU hW => ⟨rfl, by rw [hU]; exact hP, hE.warm hW⟩⟩ rfl rfl hl.1 rfl (lv_room (Nat.le_of_ble_eq_true rfl)) dX12_call_157 ⟨Nat.le_of_ble_eq_true rfl, Nat.le_of_ble_eq_true rfl⟩)) (fun r9 h => ?_)
          have hin_10 := h.1
          have h := h.2
          refine va_iast hx hb hK hP hD hS 36 0 rfl rfl hin_10 dX12_call_160 (fun H locs hP hD hS => ?_)
          obtain ⟨S10, eS10⟩ : ∃ z, z = ms S_140 40 (upd (S_140 40) (x140_5 : Int32).toNatClampNeg r9) := ⟨_, rfl⟩
          have hP : va_P D vwCl (mW cI cZ h0 q S10) H := by rw [eS10]; exact hP
          have hD : va_D A (mW cI cZ h0 q S10) := by rw [eS10]; exact hD
          have h := h S10 eS10
          refine lv_aload_n hx hb dX12_call_161 rfl (lv_at hl 0 rfl) ?_
          refine va_get (D := D) (ci := 12) (v := .ref (q 19)) (C := RX12) (T := TX12) (N := 52) hx hb hts (fun _ h => List.mem_cons_of_mem _ (List.mem_append_right _ h)) hown hK hP 0 rfl rfl 19 (by decide) (hts (.fieldLink RX12 62 "TemplateForgeModel" "codeCalls" "[I") (List.mem_of_getElem? (i := 22) rfl)) (fun _ h9 => h9) rfl dX12_call_162 ?_
          refine lv_iload_n hx hb dX12_call_165 rfl (lv_at hl 1 rfl) ?_
          refine lv_dup2_11 hx hb dX12_call_166 rfl rfl ?_
          have hin_11 := h.1
          have h := h.2
          refine va_iald hx hb hK hP 18 0 rfl rfl hin_11 dX12_call_167 ?_
          refine lv_iconst (v := 1) hx hb dX12_call_168 (by decide) ?_
          refine lv_iadd hx hb dX12_call_169 ?_
          have hin_12 := h.1
          have h := h.2
          refine va_iast hx hb hK hP hD hS 18 0 rfl rfl hin_12 dX12_call_170 (fun H locs hP hD hS => ?_)
          obtain ⟨S12, eS12⟩ : ∃ z, z = ms S10 19 (upd (S10 19) (x140_1 : Int32).toNatClampNeg ((S10 19 (x140_1 : Int32).toNatClampNeg) + 1)) := ⟨_, rfl⟩
          have hP : va_P D vwCl (mW cI cZ h0 q S12) H := by rw [eS12]; exact hP
          have hD : va_D A (mW cI cZ h0 q S12) := by rw [eS12]; exact hD
          have h := h S12 eS12
          refine lv_aload_n hx hb dX12_call_171 rfl (lv_at hl 0 rfl) ?_
          refine lv_dup hx hb dX12_call_172 rfl ?_
          refine va_get (D := D) (ci := 12) (v := .int (S12 46 0)) (C := RX12) (T := TX12) (N := 52) hx hb hts (fun _ h => List.mem_cons_of_mem _ (List.mem_append_right _ h)) hown hK hP 0 rfl rfl 46 (by decide) (hts (.fieldLink RX12 252 "TemplateForgeModel" "callsByCode" "I") (List.mem_of_getElem? (i := 23) rfl)) (fun _ h9 => h9) rfl dX12_call_173 ?_
          refine lv_iconst (v := 1) hx hb dX12_call_176 (by decide) ?_
          refine lv_iadd hx hb dX12_call_177 ?_
          refine va_put (D := D) (ci := 12) (v := .int ((S12 46 0) + 1)) (ty := .int) (C := RX12) (T := TX12) (N := 52) hx hb hts (fun _ h => List.mem_cons_of_mem _ (List.mem_append_right _ h)) tyX12 tyX12_ok nmX12 hown hK hP hD hS 0 rfl rfl 46 (by decide) (hts (.fieldLink RX12 252 "TemplateForgeModel" "callsByCode" "I") (List.mem_of_getElem? (i := 23) rfl)) (fun _ h9 => h9) rfl (by decide +kernel) rfl rfl (Nat.le_of_ble_eq_true rfl) dX12_call_178 (fun H locs hP hD hS => ?_)
          obtain ⟨S13, eS13⟩ : ∃ z, z = ms S12 46 (fun _ => (S12 46 0) + 1) := ⟨_, rfl⟩
          have hP : va_P D vwCl (mW cI cZ h0 q S13) H := by rw [eS13]; exact hP
          have hD : va_D A (mW cI cZ h0 q S13) := by rw [eS13]; exact hD
          have h := h S13 eS13
          refine lv_goto (tgt := 199) hx hb dX12_call_181 (by decide) ?_
          exact J_199  S13  H locs _ h hP hD hS (lv_sub hl [0] rfl)
      have LP_93 : ∀ (n_93 : Nat), ∀ (S_93 : MST) (x93_1 : Int32) (x93_3 : Int32) (x93_5 : Int32) (x93_6 : Int32) (H : Heap) (locs : List Loc) (ls : Array Slot), wl_X12_call_r_93 (fun S_140 x140_1 x140_3 x140_5 => vp_in x140_1 8 ∧ (((((S_140 15 (x140_1 : Int32).toNatClampNeg) : Int32) = 0) → (vp_in x140_5 16 ∧ (∀ S7 : MST, S7 = ms S_140 40 (upd (S_140 40) (x140_5 : Int32).toNatClampNeg (-1)) → (wp_X12_remember_r S7 x140_1 x140_3 (fun S8 => wj_X12_call_r_199 S8  Post))))) ∧ ((¬ (((S_140 15 (x140_1 : Int32).toNatClampNeg) : Int32) = 0)) → (wp_X12_codeNow S_140 x140_1 (fun r9 => vp_in x140_5 16 ∧ (∀ S10 : MST, S10 = ms S_140 40 (upd (S_140 40) (x140_5 : Int32).toNatClampNeg r9) → (vp_in x140_1 8 ∧ (vp_in x140_1 8 ∧ (∀ S12 : MST, S12 = ms S10 19 (upd (S10 19) (x140_1 : Int32).toNatClampNeg ((S10 19 (x140_1 : Int32).toNatClampNeg) + 1)) → (∀ S13 : MST, S13 = ms S12 46 (fun _ => (S12 46 0) + 1) → (wj_X12_call_r_199 S13  Post))))))))))) Post n_93 S_93 x93_1 x93_3 x93_5 x93_6 → va_P D vwCl (mW cI cZ h0 q S_93) H → va_D A (mW cI cZ h0 q S_93) → va_S A s.heap H locs → lv_has ls 7 [(0, .ref h0), (1, .int x93_1), (2, .ref (q 42)), (3, .int x93_3), (5, .int x93_5), (6, .int x93_6)] → W p l e (headSpec zw_zd_X12_call_r ({ frames := 6, cells := 0, slots := 0, locals := 139 })).room s m ([.ref h0, .int a1, .ref (q 42), .int a3, .int a4] : List Value).toArray below meth c H locs 0 0 (MQ below (va_Qv (fun S' => Post S') (fun (S' : MST) t => va_P D vwCl (mW cI cZ h0 q S') t.heap ∧ va_D A (mW cI cZ h0 q S')) A) ([.ref h0, .int a1, .ref (q 42), .int a3, .int a4] : List Value).toArray s 0 0 A) (F0 m 93 ls []) := by
        intro n_93
        induction n_93 with
        | zero =>
          intro S_93 x93_1 x93_3 x93_5 x93_6 H locs ls h hP hD hS hl
          exact False.elim h
        | succ n_93 ih_93 =>
          intro S_93 x93_1 x93_3 x93_5 x93_6 H locs ls h hP hD hS hl
          unfold wl_X12_call_r_93 at h
          refine lv_iload hx hb dX12_call_93 (lv_at hl 5 rfl) ?_
          refine lv_bipush (v := 15) hx hb dX12_call_95 (by decide) ?_
          refine lv_icmp_ge (tgt := 140) hx hb dX12_call_97 (by decide) (fun c_14 => ?_) (fun c_14 => ?_)
          · have h := h.1 c_14
            exact EX_93_140  S_93 x93_1 x93_3 x93_5 H locs _ h hP hD hS (lv_sub hl [0, 1, 2, 3, 4] rfl)
          · have h := h.2 c_14
            refine lv_aload_n hx hb dX12_call_100 rfl (lv_at hl 0 rfl) ?_
            refine va_get (D := D) (ci := 12) (v := .ref (q 42)) (C := RX12) (T := TX12) (N := 52) hx hb hts (fun _ h => List.mem_cons_of_mem _ (List.mem_append_right _ h)) hown hK hP 0 rfl rfl 42 (by decide) (hts (.fieldLink RX12 123 "TemplateForgeModel" "register" "[I") (List.mem_of_getElem? (i := 24) rfl)) (fun _ h9 => h9) rfl dX12_call_101 ?_
            refine lv_bipush (v := 15) hx hb dX12_call_104 (by decide) ?_
            refine lv_iload hx hb dX12_call_106 (lv_at hl 4 rfl) ?_
            refine lv_imul hx hb dX12_call_108 ?_
            refine lv_iload hx hb dX12_call_109 (lv_at hl 5 rfl) ?_
            refine lv_iadd hx hb dX12_call_111 ?_
            refine lv_iload hx hb dX12_call_112 (lv_at hl 5 rfl) ?_
            refine lv_aload_n hx hb dX12_call_114 rfl (lv_at hl 0 rfl) ?_
            refine va_get (D := D) (ci := 12) (v := .ref (q 1)) (C := RX12) (T := TX12) (N := 52) hx hb hts (fun _ h => List.mem_cons_of_mem _ (List.mem_append_right _ h)) hown hK hP 0 rfl rfl 1 (by decide) (hts (.fieldLink RX12 7 "TemplateForgeModel" "args" "[I") (List.mem_of_getElem? (i := 12) rfl)) (fun _ h9 => h9) rfl dX12_call_115 ?_
            refine lv_iload_n hx hb dX12_call_118 rfl (lv_at hl 1 rfl) ?_
            have hin_15 := h.1
            have h := h.2
            refine va_iald hx hb hK hP 1 0 rfl rfl hin_15 dX12_call_119 ?_
            refine lv_icmp_ge (tgt := 132) hx hb dX12_call_120 (by decide) (fun c_16 => ?_) (fun c_16 => ?_)
            · have h := h.1 c_16
              refine lv_iconst (v := 0) hx hb dX12_call_132 (by decide) ?_
              have hin_17 := h.1
              have h := h.2
              refine va_iast hx hb hK hP hD hS 38 0 rfl rfl hin_17 dX12_call_133 (fun H locs hP hD hS => ?_)
              obtain ⟨S17, eS17⟩ : ∃ z, z = ms S_93 42 (upd (S_93 42) ((15 * x93_5) + x93_6 : Int32).toNatClampNeg 0) := ⟨_, rfl⟩
              have hP : va_P D vwCl (mW cI cZ h0 q S17) H := by rw [eS17]; exact hP
              have hD : va_D A (mW cI cZ h0 q S17) := by rw [eS17]; exact hD
              have h := h S17 eS17
              refine lv_iinc (v := x93_6 + 1) (lv' := [(6, .int (x93_6 + 1)), (0, .ref h0), (1, .int x93_1), (2, .ref (q 42)), (3, .int x93_3), (5, .int x93_5)]) hx hb dX12_call_134 hl (k := 5) rfl rfl (by decide) rfl (fun ls hl => ?_)
              refine lv_goto (tgt := 93) hx hb dX12_call_137 (by decide) ?_
              exact ih_93  S17 x93_1 x93_3 x93_5 (x93_6 + 1) H locs _ h hP hD hS (lv_sub hl [1, 2, 3, 4, 5, 0] rfl)
            · have h := h.2 c_16
              refine lv_aload_n hx hb dX12_call_123 rfl (lv_at hl 2 rfl) ?_
              refine lv_iload_n hx hb dX12_call_124 rfl (lv_at hl 3 rfl) ?_
              refine lv_iload hx hb dX12_call_125 (lv_at hl 5 rfl) ?_
              refine lv_iadd hx hb dX12_call_127 ?_
              have hin_18 := h.1
              have h := h.2
              refine va_iald hx hb hK hP 38 0 rfl rfl hin_18 dX12_call_128 ?_
              refine lv_goto (tgt := 133) hx hb dX12_call_129 (by decide) ?_
              have hin_19 := h.1
              have h := h.2
              refine va_iast hx hb hK hP hD hS 38 0 rfl rfl hin_19 dX12_call_133 (fun H locs hP hD hS => ?_)
              obtain ⟨S19, eS19⟩ : ∃ z, z = ms S_93 42 (upd (S_93 42) ((15 * x93_5) + x93_6 : Int32).toNatClampNeg (S_93 42 (x93_3 + x93_6 : Int32).toNatClampNeg)) := ⟨_, rfl⟩
              have hP : va_P D vwCl (mW cI cZ h0 q S19) H := by rw [eS19]; exact hP
              have hD : va_D A (mW cI cZ h0 q S19) := by rw [eS19]; exact hD
              have h := h S19 eS19
              refine lv_iinc (v := x93_6 + 1) (lv' := [(6, .int (x93_6 + 1)), (0, .ref h0), (1, .int x93_1), (2, .ref (q 42)), (3, .int x93_3), (5, .int x93_5)]) hx hb dX12_call_134 hl (k := 5) rfl rfl (by decide) rfl (fun ls hl => ?_)
              refine lv_goto (tgt := 93) hx hb dX12_call_137 (by decide) ?_
              exact ih_93  S19 x93_1 x93_3 x93_5 (x93_6 + 1) H locs _ h hP hD hS (lv_sub hl [1, 2, 3, 4, 5, 0] rfl)
      obtain ⟨n_93, h⟩ := h
      exact LP_93 n_93 S4 x60_1 x60_3 (S_60 37 0) 0 H locs _ h hP hD hS (lv_sub hl [2, 3, 4, 5, 1, 0] rfl)
    refine lv_aload_n hx hb dX12_call_0 rfl (lv_at hl 0 rfl) ?_
    refine va_get (D := D) (ci := 12) (v := .int (S 37 0)) (C := RX12) (T := TX12) (N := 52) hx hb hts (fun _ h => List.mem_cons_of_mem _ (List.mem_append_right _ h)) hown hK hP 0 rfl rfl 37 (by decide) (hts (.fieldLink RX12 236 "TemplateForgeModel" "open" "I") (List.mem_of_getElem? (i := 1) rfl)) (fun _ h9 => h9) rfl dX12_call_1 ?_
    refine lv_bipush (v := 16) hx hb dX12_call_4 (by decide) ?_
    refine lv_icmp_ne (tgt := 18) hx hb dX12_call_6 (by decide) (fun c_20 => ?_) (fun c_20 => ?_)
    · have h := h.1 c_20
      refine lv_aload_n hx hb dX12_call_18 rfl (lv_at hl 0 rfl) ?_
      have hFc := zm_free hD hS hA
      refine va_calli (va_runV (As := []) (rest := []) ⟨hx, hb, hml, hown, hts⟩ (zd_X12_stepOn l D cI cZ cP cF h0 q S  H.size _ h) (cwV 0 hts zg_zd_X12_call_r_zd_X12_stepOn_242 rfl rfl rfl (by decide +kernel) ⟨Nat.le_of_ble_eq_true rfl, Nat.le_of_ble_eq_true rfl⟩) ⟨zBW, va_recv hK hP (ci := 12) (q0 := 0) rfl rfl, fun U hU hW => ⟨rfl, by rw [hU], by rw [hU]; exact hP, hE.warm hW, hD.weaken (fun _ _ _ _ => trivial)⟩⟩ rfl rfl hl.1 rfl (lv_room (Nat.le_of_ble_eq_true rfl)) dX12_call_19 ⟨Nat.le_of_ble_eq_true rfl, Nat.le_of_ble_eq_true rfl⟩) hS (fun q _ h => hFc q h) hFc (fun r21 S21 t H locs ht hvm h hB hz1 hk1 hS => ?_)
      obtain ⟨hP, hD1⟩ := hB
      rw [ht] at hP
      have hD := hD1.weaken (fun k q _ hq => hFc q.1 hq)
      refine lv_if_ne (tgt := 26) hx hb dX12_call_22 (by decide) (fun c_22 => ?_) (fun c_22 => ?_)
      · have h := h.1 c_22
        refine lv_aload_n hx hb dX12_call_26 rfl (lv_at hl 0 rfl) ?_
        refine lv_dup hx hb dX12_call_27 rfl ?_
        refine va_get (D := D) (ci := 12) (v := .int (S21 45 0)) (C := RX12) (T := TX12) (N := 52) hx hb hts (fun _ h => List.mem_cons_of_mem _ (List.mem_append_right _ h)) hown hK hP 0 rfl rfl 45 (by decide) (hts (.fieldLink RX12 246 "TemplateForgeModel" "calls" "I") (List.mem_of_getElem? (i := 31) rfl)) (fun _ h9 => h9) rfl dX12_call_28 ?_
        refine lv_iconst (v := 1) hx hb dX12_call_31 (by decide) ?_
        refine lv_iadd hx hb dX12_call_32 ?_
        refine va_put (D := D) (ci := 12) (v := .int ((S21 45 0) + 1)) (ty := .int) (C := RX12) (T := TX12) (N := 52) hx hb hts (fun _ h => List.mem_cons_of_mem _ (List.mem_append_right _ h)) tyX12 tyX12_ok nmX12 hown hK hP hD hS 0 rfl rfl 45 (by decide) (hts (.fieldLink RX12 246 "TemplateForgeModel" "calls" "I") (List.mem_of_getElem? (i := 31) rfl)) (fun _ h9 => h9) rfl (by decide +kernel) rfl rfl (Nat.le_of_ble_eq_true rfl) dX12_call_33 (fun H locs hP hD hS => ?_)
        obtain ⟨S23, eS23⟩ : ∃ z, z = ms S21 45 (fun _ => (S21 45 0) + 1) := ⟨_, rfl⟩
        have hP : va_P D vwCl (mW cI cZ h0 q S23) H := by rw [eS23]; exact hP
        have hD : va_D A (mW cI cZ h0 q S23) := by rw [eS23]; exact hD
        have h := h S23 eS23
        refine lv_aload_n hx hb dX12_call_36 rfl (lv_at hl 0 rfl) ?_
        refine va_get (D := D) (ci := 12) (v := .ref (q 15)) (C := RX12) (T := TX12) (N := 52) hx hb hts (fun _ h => List.mem_cons_of_mem _ (List.mem_append_right _ h)) hown hK hP 0 rfl rfl 15 (by decide) (hts (.fieldLink RX12 50 "TemplateForgeModel" "hasCode" "[Z") (List.mem_of_getElem? (i := 5) rfl)) (fun _ h9 => h9) rfl dX12_call_37 ?_
        refine lv_iload_n hx hb dX12_call_40 rfl (lv_at hl 1 rfl) ?_
        have hin_24 := h.1
        have h := h.2
        refine va_zald hx hb hK hP 14 1 rfl rfl hin_24 dX12_call_41 ?_
        refine lv_if_ne (tgt := 60) hx hb dX12_call_42 (by decide) (fun c_25 => ?_) (fun c_25 => ?_)
        · have h := h.1 c_25
          exact J_60  S23 a1 a3 H locs _ h hP hD hS (lv_sub hl [0, 1, 2, 3] rfl)
        · have h := h.2 c_25
          refine lv_aload_n hx hb dX12_call_45 rfl (lv_at hl 0 rfl) ?_
          refine va_get (D := D) (ci := 12) (v := .ref (q 16)) (C := RX12) (T := TX12) (N := 52) hx hb hts (fun _ h => List.mem_cons_of_mem _ (List.mem_append_right _ h)) hown hK hP 0 rfl rfl 16 (by decide) (hts (.fieldLink RX12 53 "TemplateForgeModel" "counted" "[I") (List.mem_of_getElem? (i := 8) rfl)) (fun _ h9 => h9) rfl dX12_call_46 ?_
          refine lv_iload_n hx hb dX12_call_49 rfl (lv_at hl 1 rfl) ?_
          have hin_26 := h.1
          have h := h.2
          refine va_iald hx hb hK hP 15 0 rfl rfl hin_26 dX12_call_50 ?_
          refine lv_iconst (v := 3) hx hb dX12_call_51 (by decide) ?_
          refine lv_icmp_ne (tgt := 60) hx hb dX12_call_52 (by decide) (fun c_27 => ?_) (fun c_27 => ?_)
          · have h := h.1 c_27
            exact J_60  S23 a1 a3 H locs _ h hP hD hS (lv_sub hl [0, 1, 2, 3] rfl)
          · have h := h.2 c_27
            refine lv_aload_n hx hb dX12_call_55 rfl (lv_at hl 0 rfl) ?_
            refine lv_iload_n hx hb dX12_call_56 rfl (lv_at hl 1 rfl) ?_
            have hFc := zm_free hD hS hA
            refine va_callv (va_runV (As := [.int a1]) (rest := []) ⟨hx, hb, hml, hown, hts⟩ (zd_X12_makeCode l D cI cZ cP cF h0 q S23 a1 H.size _ h) (cwV 1 hts zg_zd_X12_call_r_zd_X12_makeCode_249 rfl rfl rfl (by decide +kernel) ⟨Nat.le_of_ble_eq_true rfl, Nat.le_of_ble_eq_true rfl⟩) ⟨zBW, va_recv hK hP (ci := 12) (q0 := 0) rfl rfl, fun U hU hW => ⟨rfl, by rw [hU], by rw [hU]; exact hP, hE.warm hW, hD.weaken (fun _ _ _ _ => trivial)⟩⟩ rfl rfl hl.1 rfl (lv_room (Nat.le_of_ble_eq_true rfl)) dX12_call_57 ⟨Nat.le_of_ble_eq_true rfl, Nat.le_of_ble_eq_true rfl⟩) hS (fun q _ h => hFc q h) hFc (fun S28 t H locs ht hvm h hB hz1 hk1 hS => ?_)
            obtain ⟨hP, hD1⟩ := hB
            rw [ht] at hP
            have hD := hD1.weaken (fun k q _ hq => hFc q.1 hq)
            exact J_60  S28 a1 a3 H locs _ h hP hD hS (lv_sub hl [0, 1, 2, 3] rfl)
      · have h := h.2 c_22
        exact W.vret hx hb hr (fun t ht hW => ⟨⟨S21, rfl, h, by rw [ht]; exact hP, hD⟩, hS.F ht⟩) hS.2.2 dX12_call_25
    · have h := h.2 c_20
      refine lv_aload_n hx hb dX12_call_9 rfl (lv_at hl 0 rfl) ?_
      refine lv_bipush (v := 6) hx hb dX12_call_10 (by decide) ?_
      refine lv_iload hx hb dX12_call_12 (lv_at hl 4 rfl) ?_
      have hFc := zm_free hD hS hA
      refine va_callv (va_runV (As := [.int 6, .int a4]) (rest := []) ⟨hx, hb, hml, hown, hts⟩ (zd_X12_traps l D cI cZ cP cF h0 q S 6 a4 H.size _ h) (cwV 2 hts zg_zd_X12_call_r_zd_X12_traps_239 rfl rfl rfl (by decide +kernel) ⟨Nat.le_of_ble_eq_true rfl, Nat.le_of_ble_eq_true rfl⟩) ⟨zBW, va_recv hK hP (ci := 12) (q0 := 0) rfl rfl, fun U hU hW => ⟨rfl, by rw [hU], by rw [hU]; exact hP, hE.warm hW, hD.weaken (fun _ _ _ _ => trivial)⟩⟩ rfl rfl hl.1 rfl (lv_room (Nat.le_of_ble_eq_true rfl)) dX12_call_14 ⟨Nat.le_of_ble_eq_true rfl, Nat.le_of_ble_eq_true rfl⟩) hS (fun q _ h => hFc q h) hFc (fun S29 t H locs ht hvm h hB hz1 hk1 hS => ?_)
      obtain ⟨hP, hD1⟩ := hB
      rw [ht] at hP
      have hD := hD1.weaken (fun k q _ hq => hFc q.1 hq)
      exact W.vret hx hb hr (fun t ht hW => ⟨⟨S29, rfl, h, by rw [ht]; exact hP, hD⟩, hS.F ht⟩) hS.2.2 dX12_call_17
  exact key _ _ hP va_S.rf
def wj_X12_call_f_199 (S_199 : MST) (Post : MST → Prop) : Prop :=
  ∀ S1 : MST, S1 = ms S_199 37 (fun _ => (S_199 37 0) + 1) → (Post S1)
def wl_X12_call_f_93 (K_140 : MST → Int32 → Int32 → Int32 → Prop) (Post : MST → Prop) : Nat → MST → Int32 → Int32 → Int32 → Int32 → Prop
  | 0, _, _, _, _, _ => False
  | n_93 + 1, S_93, x93_1, x93_3, x93_5, x93_6 => ((15 ≤ x93_6) → ((K_140 S_93 x93_1 x93_3 x93_5))) ∧ ((¬ (15 ≤ x93_6)) → (vp_in x93_1 8 ∧ ((((S_93 1 (x93_1 : Int32).toNatClampNeg) ≤ x93_6) → (vp_in ((15 * x93_5) + x93_6) 240 ∧ (∀ S17 : MST, S17 = ms S_93 42 (upd (S_93 42) ((15 * x93_5) + x93_6 : Int32).toNatClampNeg 0) → (wl_X12_call_f_93 K_140 Post n_93 S17 x93_1 x93_3 x93_5 (x93_6 + 1))))) ∧ ((¬ ((S_93 1 (x93_1 : Int32).toNatClampNeg) ≤ x93_6)) → (vp_in (x93_3 + x93_6) 3 ∧ (vp_in ((15 * x93_5) + x93_6) 240 ∧ (∀ S19 : MST, S19 = ms S_93 42 (upd (S_93 42) ((15 * x93_5) + x93_6 : Int32).toNatClampNeg (S_93 51 (x93_3 + x93_6 : Int32).toNatClampNeg)) → (wl_X12_call_f_93 K_140 Post n_93 S19 x93_1 x93_3 x93_5 (x93_6 + 1)))))))))
def wj_X12_call_f_60 (S_60 : MST) (x60_1 : Int32) (x60_3 : Int32) (Post : MST → Prop) : Prop :=
  vp_in (S_60 37 0) 16 ∧ (∀ S2 : MST, S2 = ms S_60 38 (upd (S_60 38) (S_60 37 0 : Int32).toNatClampNeg x60_1) → (vp_in (S_60 37 0) 16 ∧ (∀ S3 : MST, S3 = ms S2 39 (upd (S2 39) (S_60 37 0 : Int32).toNatClampNeg 0) → (vp_in (S_60 37 0) 16 ∧ (∀ S4 : MST, S4 = ms S3 41 (upd (S3 41) (S_60 37 0 : Int32).toNatClampNeg 0) → (∃ n_93, wl_X12_call_f_93 (fun S_140 x140_1 x140_3 x140_5 => vp_in x140_1 8 ∧ (((((S_140 15 (x140_1 : Int32).toNatClampNeg) : Int32) = 0) → (vp_in x140_5 16 ∧ (∀ S7 : MST, S7 = ms S_140 40 (upd (S_140 40) (x140_5 : Int32).toNatClampNeg (-1)) → (wp_X12_remember_f S7 x140_1 x140_3 (fun S8 => wj_X12_call_f_199 S8  Post))))) ∧ ((¬ (((S_140 15 (x140_1 : Int32).toNatClampNeg) : Int32) = 0)) → (wp_X12_codeNow S_140 x140_1 (fun r9 => vp_in x140_5 16 ∧ (∀ S10 : MST, S10 = ms S_140 40 (upd (S_140 40) (x140_5 : Int32).toNatClampNeg r9) → (vp_in x140_1 8 ∧ (vp_in x140_1 8 ∧ (∀ S12 : MST, S12 = ms S10 19 (upd (S10 19) (x140_1 : Int32).toNatClampNeg ((S10 19 (x140_1 : Int32).toNatClampNeg) + 1)) → (∀ S13 : MST, S13 = ms S12 46 (fun _ => (S12 46 0) + 1) → (wj_X12_call_f_199 S13  Post))))))))))) Post n_93 S4 x60_1 x60_3 (S_60 37 0) 0))))))
def wp_X12_call_f (S : MST) (a1 : Int32) (a3 : Int32) (a4 : Int32) (Post : MST → Prop) : Prop :=
  ((¬ (((S 37 0) : Int32) = 16)) → (wp_X12_stepOn S  (fun S21 r21 => ((¬ ((r21 : Int32) = 0)) → (∀ S23 : MST, S23 = ms S21 45 (fun _ => (S21 45 0) + 1) → (vp_in a1 8 ∧ (((¬ (((S23 15 (a1 : Int32).toNatClampNeg) : Int32) = 0)) → (wj_X12_call_f_60 S23 a1 a3 Post)) ∧ ((((S23 15 (a1 : Int32).toNatClampNeg) : Int32) = 0) → (vp_in a1 8 ∧ (((¬ (((S23 16 (a1 : Int32).toNatClampNeg) : Int32) = 3)) → (wj_X12_call_f_60 S23 a1 a3 Post)) ∧ ((((S23 16 (a1 : Int32).toNatClampNeg) : Int32) = 3) → (wp_X12_makeCode S23 a1 (fun S28 => wj_X12_call_f_60 S28 a1 a3 Post)))))))))) ∧ (((r21 : Int32) = 0) → (Post S21))))) ∧ ((((S 37 0) : Int32) = 16) → (wp_X12_traps S 6 a4 (fun S29 => Post S29)))
def zw_zd_X12_call_f_w0 : List Cond := [.fieldLink RX12 236 "TemplateForgeModel" "open" "I", .fieldLink RX12 111 "TemplateForgeModel" "frameMethod" "[I", .fieldLink RX12 114 "TemplateForgeModel" "frameAt" "[I", .fieldLink RX12 120 "TemplateForgeModel" "frameDepth" "[I", .fieldLink RX12 50 "TemplateForgeModel" "hasCode" "[Z", .fieldLink RX12 117 "TemplateForgeModel" "frameCode" "[I", .code yX12_remember cX12_remember 6 none, .fieldLink RX12 53 "TemplateForgeModel" "counted" "[I", .fieldLink RX12 41 "TemplateForgeModel" "fields" "[I", .fieldLink RX12 68 "TemplateForgeModel" "isLike" "[Z", .fieldLink RX12 65 "TemplateForgeModel" "value" "[I", .fieldLink RX12 7 "TemplateForgeModel" "args" "[I", .methodLink RX12 255 yX12_remember, .instanceMethod yX12_remember, .selects RX12 yX12_remember yX12_remember, .initialized RX12]
def zw_zd_X12_call_f_w1 : List Cond := [.code yX12_codeNow cX12_codeNow 2 (some .int), .fieldLink RX12 56 "TemplateForgeModel" "madeCodes" "[I", .methodLink RX12 217 yX12_codeNow, .instanceMethod yX12_codeNow, .selects RX12 yX12_codeNow yX12_codeNow, .fieldLink RX12 62 "TemplateForgeModel" "codeCalls" "[I", .fieldLink RX12 252 "TemplateForgeModel" "callsByCode" "I", .fieldLink RX12 123 "TemplateForgeModel" "register" "[I", .code yX12_stepOn cX12_stepOn 1 (some .boolean), .fieldLink RX12 230 "TemplateForgeModel" "steps" "I", .fieldLink RX12 233 "TemplateForgeModel" "outcome" "I", .methodLink RX12 242 yX12_stepOn, .instanceMethod yX12_stepOn, .selects RX12 yX12_stepOn yX12_stepOn, .fieldLink RX12 246 "TemplateForgeModel" "calls" "I", .code yX12_makeCode cX12_makeCode 4 none]
def zw_zd_X12_call_f_w2 : List Cond := [.code yX12_assumes cX12_assumes 4 none, .code yX12_has cX12_has 6 (some .boolean), .fieldLink RX12 16 "TemplateForgeModel" "many" "[I", .fieldLink RX12 29 "TemplateForgeModel" "depths" "[I", .fieldLink RX12 19 "TemplateForgeModel" "op" "[I", .fieldLink RX12 22 "TemplateForgeModel" "operand" "[I", .methodLink RX12 178 yX12_has, .instanceMethod yX12_has, .selects RX12 yX12_has yX12_has, .fieldLink RX12 96 "TemplateForgeModel" "assumed" "[Z", .fieldLink RX12 71 "TemplateForgeModel" "doesVary" "[Z", .methodLink RX12 214 yX12_assumes, .instanceMethod yX12_assumes, .selects RX12 yX12_assumes yX12_assumes, .fieldLink RX12 181 "TemplateForgeModel" "code" "I", .fieldLink RX12 74 "TemplateForgeModel" "partMany" "[I"]
def zw_zd_X12_call_f_w3 : List Cond := [.fieldLink RX12 184 "TemplateForgeModel" "owner" "I", .code yX12_fieldGuards cX12_fieldGuards 3 none, .code yX12_part cX12_part 6 none, .fieldLink RX12 81 "TemplateForgeModel" "partOp" "[I", .fieldLink RX12 84 "TemplateForgeModel" "partD" "[I", .fieldLink RX12 87 "TemplateForgeModel" "partA" "[I", .fieldLink RX12 90 "TemplateForgeModel" "partB" "[I", .fieldLink RX12 93 "TemplateForgeModel" "partOf" "[I", .methodLink RX12 187 yX12_part, .instanceMethod yX12_part, .selects RX12 yX12_part yX12_part, .methodLink RX12 208 yX12_fieldGuards, .instanceMethod yX12_fieldGuards, .selects RX12 yX12_fieldGuards yX12_fieldGuards, .code yX12_begins cX12_begins 3 none, .fieldLink RX12 99 "TemplateForgeModel" "localKnown" "[Z"]
def zw_zd_X12_call_f_w4 : List Cond := [.fieldLink RX12 102 "TemplateForgeModel" "localIs" "[I", .fieldLink RX12 105 "TemplateForgeModel" "placeKnown" "[Z", .methodLink RX12 220 yX12_begins, .instanceMethod yX12_begins, .selects RX12 yX12_begins yX12_begins, .code yX12_isTarget cX12_isTarget 3 (some .boolean), .methodLink RX12 223 yX12_isTarget, .instanceMethod yX12_isTarget, .selects RX12 yX12_isTarget yX12_isTarget, .fieldLink RX12 77 "TemplateForgeModel" "starts" "[I", .code yX12_make cX12_make 7 none, .code yX12_makeTwo cX12_makeTwo 5 none, .code yX12_layOne cX12_layOne 2 none, .fieldLink RX12 108 "TemplateForgeModel" "placeIs" "[I", .methodLink RX12 191 yX12_layOne, .instanceMethod yX12_layOne]
def zw_zd_X12_call_f_w5 : List Cond := [.selects RX12 yX12_layOne yX12_layOne, .code yX12_sumOf cX12_sumOf 3 (some .int), .methodLink RX12 195 yX12_sumOf, .static yX12_sumOf, .methodLink RX12 211 yX12_makeTwo, .instanceMethod yX12_makeTwo, .selects RX12 yX12_makeTwo yX12_makeTwo, .code yX12_knows cX12_knows 3 none, .methodLink RX12 201 yX12_knows, .instanceMethod yX12_knows, .selects RX12 yX12_knows yX12_knows, .code yX12_layAll cX12_layAll 3 none, .methodLink RX12 198 yX12_layAll, .instanceMethod yX12_layAll, .selects RX12 yX12_layAll yX12_layAll, .code yX12_makeWhen cX12_makeWhen 3 none]
def zw_zd_X12_call_f_w6 : List Cond := [.methodLink RX12 205 yX12_makeWhen, .instanceMethod yX12_makeWhen, .selects RX12 yX12_makeWhen yX12_makeWhen, .methodLink RX12 227 yX12_make, .instanceMethod yX12_make, .selects RX12 yX12_make yX12_make, .methodLink RX12 249 yX12_makeCode, .instanceMethod yX12_makeCode, .selects RX12 yX12_makeCode yX12_makeCode, .code yX12_traps cX12_traps 3 none, .fieldLink RX12 126 "TemplateForgeModel" "trap" "[I", .methodLink RX12 239 yX12_traps, .instanceMethod yX12_traps, .selects RX12 yX12_traps yX12_traps]
def zw_zd_X12_call_f : List Cond := .code yX12_call cX12_call 7 none :: ((zw_zd_X12_call_f_w0 ++ (zw_zd_X12_call_f_w1 ++ (zw_zd_X12_call_f_w2 ++ (zw_zd_X12_call_f_w3 ++ (zw_zd_X12_call_f_w4 ++ (zw_zd_X12_call_f_w5 ++ (zw_zd_X12_call_f_w6))))))) ++ wsX120)
set_option maxRecDepth 100000 in
theorem zg_zd_X12_call_f_zd_X12_remember_f_255_a : GoodIn zw_zd_X12_call_f [.methodLink RX12 255 yX12_remember, .instanceMethod yX12_remember, .selects RX12 yX12_remember yX12_remember, .initialized RX12] := goodIn_r _ [13, 14, 15, 16] rfl (by decide +kernel)
set_option maxRecDepth 100000 in
theorem zg_zd_X12_call_f_zd_X12_remember_f_255_c : GoodIn zw_zd_X12_call_f [.code yX12_remember cX12_remember 6 none] := goodIn_r _ [7] rfl (by decide +kernel)
set_option maxRecDepth 100000 in
theorem zg_zd_X12_call_f_zd_X12_remember_f_255_0 : GoodIn zw_zd_X12_call_f zw_zd_X12_remember_f_w0 := goodIn_r _ [8, 9, 10, 11, 12] rfl (by decide +kernel)
theorem zg_zd_X12_call_f_zd_X12_remember_f_255 : GoodIn zw_zd_X12_call_f (wsV RX12 255 RX12 yX12_remember zw_zd_X12_remember_f) := goodIn_app zg_zd_X12_call_f_zd_X12_remember_f_255_a (goodIn_ca (a := (zw_zd_X12_remember_f_w0)) (show GoodIn zw_zd_X12_call_f (.code yX12_remember cX12_remember 6 none :: (zw_zd_X12_remember_f_w0)) from goodIn_app zg_zd_X12_call_f_zd_X12_remember_f_255_c (zg_zd_X12_call_f_zd_X12_remember_f_255_0)) (fun w h => ⟨(fun _ h => List.mem_cons_of_mem _ (List.mem_append_right _ h)) w h, good_of_word (List.all_eq_true.mp zgw_X12 w h)⟩))
set_option maxRecDepth 100000 in
theorem zg_zd_X12_call_f_zd_X12_codeNow_217_a : GoodIn zw_zd_X12_call_f [.methodLink RX12 217 yX12_codeNow, .instanceMethod yX12_codeNow, .selects RX12 yX12_codeNow yX12_codeNow, .initialized RX12] := goodIn_r _ [19, 20, 21, 16] rfl (by decide +kernel)
set_option maxRecDepth 100000 in
theorem zg_zd_X12_call_f_zd_X12_codeNow_217_c : GoodIn zw_zd_X12_call_f [.code yX12_codeNow cX12_codeNow 2 (some .int)] := goodIn_r _ [17] rfl (by decide +kernel)
set_option maxRecDepth 100000 in
theorem zg_zd_X12_call_f_zd_X12_codeNow_217_0 : GoodIn zw_zd_X12_call_f zw_zd_X12_codeNow_w0 := goodIn_r _ [18] rfl (by decide +kernel)
theorem zg_zd_X12_call_f_zd_X12_codeNow_217 : GoodIn zw_zd_X12_call_f (wsV RX12 217 RX12 yX12_codeNow zw_zd_X12_codeNow) := goodIn_app zg_zd_X12_call_f_zd_X12_codeNow_217_a (goodIn_ca (a := (zw_zd_X12_codeNow_w0)) (show GoodIn zw_zd_X12_call_f (.code yX12_codeNow cX12_codeNow 2 (some .int) :: (zw_zd_X12_codeNow_w0)) from goodIn_app zg_zd_X12_call_f_zd_X12_codeNow_217_c (zg_zd_X12_call_f_zd_X12_codeNow_217_0)) (fun w h => ⟨(fun _ h => List.mem_cons_of_mem _ (List.mem_append_right _ h)) w h, good_of_word (List.all_eq_true.mp zgw_X12 w h)⟩))
set_option maxRecDepth 100000 in
theorem zg_zd_X12_call_f_zd_X12_stepOn_242_a : GoodIn zw_zd_X12_call_f [.methodLink RX12 242 yX12_stepOn, .instanceMethod yX12_stepOn, .selects RX12 yX12_stepOn yX12_stepOn, .initialized RX12] := goodIn_r _ [28, 29, 30, 16] rfl (by decide +kernel)
set_option maxRecDepth 100000 in
theorem zg_zd_X12_call_f_zd_X12_stepOn_242_c : GoodIn zw_zd_X12_call_f [.code yX12_stepOn cX12_stepOn 1 (some .boolean)] := goodIn_r _ [25] rfl (by decide +kernel)
set_option maxRecDepth 100000 in
theorem zg_zd_X12_call_f_zd_X12_stepOn_242_0 : GoodIn zw_zd_X12_call_f zw_zd_X12_stepOn_w0 := goodIn_r _ [26, 27] rfl (by decide +kernel)
theorem zg_zd_X12_call_f_zd_X12_stepOn_242 : GoodIn zw_zd_X12_call_f (wsV RX12 242 RX12 yX12_stepOn zw_zd_X12_stepOn) := goodIn_app zg_zd_X12_call_f_zd_X12_stepOn_242_a (goodIn_ca (a := (zw_zd_X12_stepOn_w0)) (show GoodIn zw_zd_X12_call_f (.code yX12_stepOn cX12_stepOn 1 (some .boolean) :: (zw_zd_X12_stepOn_w0)) from goodIn_app zg_zd_X12_call_f_zd_X12_stepOn_242_c (zg_zd_X12_call_f_zd_X12_stepOn_242_0)) (fun w h => ⟨(fun _ h => List.mem_cons_of_mem _ (List.mem_append_right _ h)) w h, good_of_word (List.all_eq_true.mp zgw_X12 w h)⟩))
set_option maxRecDepth 100000 in
theorem zg_zd_X12_call_f_zd_X12_makeCode_249_a : GoodIn zw_zd_X12_call_f [.methodLink RX12 249 yX12_makeCode, .instanceMethod yX12_makeCode, .selects RX12 yX12_makeCode yX12_makeCode, .initialized RX12] := goodIn_r _ [103, 104, 105, 16] rfl (by decide +kernel)
set_option maxRecDepth 100000 in
theorem zg_zd_X12_call_f_zd_X12_makeCode_249_c : GoodIn zw_zd_X12_call_f [.code yX12_makeCode cX12_makeCode 4 none] := goodIn_r _ [32] rfl (by decide +kernel)
set_option maxRecDepth 100000 in
theorem zg_zd_X12_call_f_zd_X12_makeCode_249_0 : GoodIn zw_zd_X12_call_f zw_zd_X12_makeCode_w0 := goodIn_r _ [33, 34, 35, 36, 37, 38, 39, 40, 41, 16, 42, 43, 10, 12, 44, 45] rfl (by decide +kernel)
set_option maxRecDepth 100000 in
theorem zg_zd_X12_call_f_zd_X12_makeCode_249_1 : GoodIn zw_zd_X12_call_f zw_zd_X12_makeCode_w1 := goodIn_r _ [46, 18, 5, 17, 19, 20, 21, 47, 48, 49, 50, 11, 51, 52, 53, 54] rfl (by decide +kernel)
set_option maxRecDepth 100000 in
theorem zg_zd_X12_call_f_zd_X12_makeCode_249_2 : GoodIn zw_zd_X12_call_f zw_zd_X12_makeCode_w2 := goodIn_r _ [55, 56, 57, 58, 59, 60, 61, 62, 63, 64, 65, 66, 67, 68, 69, 70] rfl (by decide +kernel)
set_option maxRecDepth 100000 in
theorem zg_zd_X12_call_f_zd_X12_makeCode_249_3 : GoodIn zw_zd_X12_call_f zw_zd_X12_makeCode_w3 := goodIn_r _ [71, 72, 73, 74, 75, 76, 77, 78, 79, 80, 81, 82, 83, 84, 85, 86] rfl (by decide +kernel)
set_option maxRecDepth 100000 in
theorem zg_zd_X12_call_f_zd_X12_makeCode_249_4 : GoodIn zw_zd_X12_call_f zw_zd_X12_makeCode_w4 := goodIn_r _ [87, 88, 89, 90, 91, 92, 93, 94, 95, 96, 97, 98, 99, 100, 101, 102] rfl (by decide +kernel)
theorem zg_zd_X12_call_f_zd_X12_makeCode_249 : GoodIn zw_zd_X12_call_f (wsV RX12 249 RX12 yX12_makeCode zw_zd_X12_makeCode) := goodIn_app zg_zd_X12_call_f_zd_X12_makeCode_249_a (goodIn_ca (a := (zw_zd_X12_makeCode_w0 ++ (zw_zd_X12_makeCode_w1 ++ (zw_zd_X12_makeCode_w2 ++ (zw_zd_X12_makeCode_w3 ++ (zw_zd_X12_makeCode_w4)))))) (show GoodIn zw_zd_X12_call_f (.code yX12_makeCode cX12_makeCode 4 none :: (zw_zd_X12_makeCode_w0 ++ (zw_zd_X12_makeCode_w1 ++ (zw_zd_X12_makeCode_w2 ++ (zw_zd_X12_makeCode_w3 ++ (zw_zd_X12_makeCode_w4)))))) from goodIn_app zg_zd_X12_call_f_zd_X12_makeCode_249_c (goodIn_app zg_zd_X12_call_f_zd_X12_makeCode_249_0 (goodIn_app zg_zd_X12_call_f_zd_X12_makeCode_249_1 (goodIn_app zg_zd_X12_call_f_zd_X12_makeCode_249_2 (goodIn_app zg_zd_X12_call_f_zd_X12_makeCode_249_3 (zg_zd_X12_call_f_zd_X12_makeCode_249_4)))))) (fun w h => ⟨(fun _ h => List.mem_cons_of_mem _ (List.mem_append_right _ h)) w h, good_of_word (List.all_eq_true.mp zgw_X12 w h)⟩))
set_option maxRecDepth 100000 in
theorem zg_zd_X12_call_f_zd_X12_traps_239_a : GoodIn zw_zd_X12_call_f [.methodLink RX12 239 yX12_traps, .instanceMethod yX12_traps, .selects RX12 yX12_traps yX12_traps, .initialized RX12] := goodIn_r _ [108, 109, 110, 16] rfl (by decide +kernel)
set_option maxRecDepth 100000 in
theorem zg_zd_X12_call_f_zd_X12_traps_239_c : GoodIn zw_zd_X12_call_f [.code yX12_traps cX12_traps 3 none] := goodIn_r _ [106] rfl (by decide +kernel)
set_option maxRecDepth 100000 in
theorem zg_zd_X12_call_f_zd_X12_traps_239_0 : GoodIn zw_zd_X12_call_f zw_zd_X12_traps_w0 := goodIn_r _ [27, 107, 2, 1] rfl (by decide +kernel)
theorem zg_zd_X12_call_f_zd_X12_traps_239 : GoodIn zw_zd_X12_call_f (wsV RX12 239 RX12 yX12_traps zw_zd_X12_traps) := goodIn_app zg_zd_X12_call_f_zd_X12_traps_239_a (goodIn_ca (a := (zw_zd_X12_traps_w0)) (show GoodIn zw_zd_X12_call_f (.code yX12_traps cX12_traps 3 none :: (zw_zd_X12_traps_w0)) from goodIn_app zg_zd_X12_call_f_zd_X12_traps_239_c (zg_zd_X12_call_f_zd_X12_traps_239_0)) (fun w h => ⟨(fun _ h => List.mem_cons_of_mem _ (List.mem_append_right _ h)) w h, good_of_word (List.all_eq_true.mp zgw_X12 w h)⟩))
set_option maxHeartbeats 16000000 in
set_option maxRecDepth 100000 in
theorem zd_X12_call_f (l : Launch) (D : va_G) (cI cZ cP cF : Nat) (h0 : Nat) (q : Nat → Nat) (S : MST) (a1 : Int32) (a3 : Int32) (a4 : Int32) (sz : Nat) (Post : MST → Prop) (h : wp_X12_call_f S a1 a3 a4 Post) : Met l yX12_call zw_zd_X12_call_f ({ frames := 6, cells := 0, slots := 0, locals := 139 }) (va_Pc [.ref h0, .int a1, .ref (q 51), .int a3, .int a4] (fun U => U.heap.size = sz ∧ va_P D vwCl (mW cI cZ h0 q S) U.heap ∧ zE D cI cZ cP cF U ∧ va_D (fun _ => True) (mW cI cZ h0 q S))) (va_Qv (fun S' => Post S') (fun (S' : MST) t => va_P D vwCl (mW cI cZ h0 q S') t.heap ∧ va_D (va_A (mW cI cZ h0 q S) sz) (mW cI cZ h0 q S')) (va_A (mW cI cZ h0 q S) sz)) 0 0 (va_A (mW cI cZ h0 q S) sz) := by
  unfold wp_X12_call_f at h
  refine Met.ofW (cc := cX12_call) (maxL := 7) (ret := none) (by decide) rfl ?_
  intro p e s m args below meth c s₁ B hml hv
  obtain ⟨rfl, hsz, hP, hE, hD0⟩ := hv
  have hx := B.exec
  have hb := B.bytes
  have hr := B.returns
  have hts := atoms_spec (ws := zw_zd_X12_call_f) B.pre
  have hown : s.vm.findClass RX12 = some m.cls := findClass_of_methodNamed B.named
  have hlocks := B.notSynchronized
  have hK := hE.k
  subst hsz
  have hD := hD0.self (sz := s.heap.size)
  generalize hAe : va_A (mW cI cZ h0 q S) s.heap.size = A at hD ⊢
  have hA : ∀ q : Nat, s.heap.size ≤ q → A q := fun q h => by rw [← hAe]; exact Or.inr h
  have hl := lv_entry ([.ref h0, .int a1, .ref (q 51), .int a3, .int a4]) (n := 7) (Nat.le_of_ble_eq_true rfl)
  rw [lg_entry_eq]
  generalize (lg_sl ([.ref h0, .int a1, .ref (q 51), .int a3, .int a4]) ++ List.replicate (7 - (lg_sl ([.ref h0, .int a1, .ref (q 51), .int a3, .int a4])).length) Slot.unset).toArray = ls at hl ⊢
  have hl : lv_has ls 7 [(0, .ref h0), (1, .int a1), (2, .ref (q 51)), (3, .int a3), (4, .int a4)] := hl
  have key : ∀ (H : Heap) (locs : List Loc), va_P D vwCl (mW cI cZ h0 q S) H → va_S A s.heap H locs → W p l e (headSpec zw_zd_X12_call_f ({ frames := 6, cells := 0, slots := 0, locals := 139 })).room s m ([.ref h0, .int a1, .ref (q 51), .int a3, .int a4] : List Value).toArray below meth c H locs 0 0 (MQ below (va_Qv (fun S' => Post S') (fun (S' : MST) t => va_P D vwCl (mW cI cZ h0 q S') t.heap ∧ va_D A (mW cI cZ h0 q S')) A) ([.ref h0, .int a1, .ref (q 51), .int a3, .int a4] : List Value).toArray s 0 0 A) (F0 m 0 ls []) := by
    intro H locs hP hS
    have J_199 : ∀ (S_199 : MST) (H : Heap) (locs : List Loc) (ls : Array Slot), wj_X12_call_f_199 S_199  Post → va_P D vwCl (mW cI cZ h0 q S_199) H → va_D A (mW cI cZ h0 q S_199) → va_S A s.heap H locs → lv_has ls 7 [(0, .ref h0)] → W p l e (headSpec zw_zd_X12_call_f ({ frames := 6, cells := 0, slots := 0, locals := 139 })).room s m ([.ref h0, .int a1, .ref (q 51), .int a3, .int a4] : List Value).toArray below meth c H locs 0 0 (MQ below (va_Qv (fun S' => Post S') (fun (S' : MST) t => va_P D vwCl (mW cI cZ h0 q S') t.heap ∧ va_D A (mW cI cZ h0 q S')) A) ([.ref h0, .int a1, .ref (q 51), .int a3, .int a4] : List Value).toArray s 0 0 A) (F0 m 199 ls []) := by
      intro S_199  H locs ls h hP hD hS hl
      unfold wj_X12_call_f_199 at h
      refine lv_aload_n hx hb dX12_call_199 rfl (lv_at hl 0 rfl) ?_
      refine lv_dup hx hb dX12_call_200 rfl ?_
      refine va_get (D := D) (ci := 12) (v := .int (S_199 37 0)) (C := RX12) (T := TX12) (N := 52) hx hb hts (fun _ h => List.mem_cons_of_mem _ (List.mem_append_right _ h)) hown hK hP 0 rfl rfl 37 (by decide) (hts (.fieldLink RX12 236 "TemplateForgeModel" "open" "I") (List.mem_of_getElem? (i := 1) rfl)) (fun _ h9 => h9) rfl dX12_call_201 ?_
      refine lv_iconst (v := 1) hx hb dX12_call_204 (by decide) ?_
      refine lv_iadd hx hb dX12_call_205 ?_
      refine va_put (D := D) (ci := 12) (v := .int ((S_199 37 0) + 1)) (ty := .int) (C := RX12) (T := TX12) (N := 52) hx hb hts (fun _ h => List.mem_cons_of_mem _ (List.mem_append_right _ h)) tyX12 tyX12_ok nmX12 hown hK hP hD hS 0 rfl rfl 37 (by decide) (hts (.fieldLink RX12 236 "TemplateForgeModel" "open" "I") (List.mem_of_getElem? (i := 1) rfl)) (fun _ h9 => h9) rfl (by decide +kernel) rfl rfl (Nat.le_of_ble_eq_true rfl) dX12_call_206 (fun H locs hP hD hS => ?_)
      obtain ⟨S1, eS1⟩ : ∃ z, z = ms S_199 37 (fun _ => (S_199 37 0) + 1) := ⟨_, rfl⟩
      have hP : va_P D vwCl (mW cI cZ h0 q S1) H := by rw [eS1]; exact hP
      have hD : va_D A (mW cI cZ h0 q S1) := by rw [eS1]; exact hD
      have h := h S1 eS1
      exact W.vret hx hb hr (fun t ht hW => ⟨⟨S1, rfl, h, by rw [ht]; exact hP, hD⟩, hS.F ht⟩) hS.2.2 dX12_call_209
    have J_60 : ∀ (S_60 : MST) (x60_1 : Int32) (x60_3 : Int32) (H : Heap) (locs : List Loc) (ls : Array Slot), wj_X12_call_f_60 S_60 x60_1 x60_3 Post → va_P D vwCl (mW cI cZ h0 q S_60) H → va_D A (mW cI cZ h0 q S_60) → va_S A s.heap H locs → lv_has ls 7 [(0, .ref h0), (1, .int x60_1), (2, .ref (q 51)), (3, .int x60_3)] → W p l e (headSpec zw_zd_X12_call_f ({ frames := 6, cells := 0, slots := 0, locals := 139 })).room s m ([.ref h0, .int a1, .ref (q 51), .int a3, .int a4] : List Value).toArray below meth c H locs 0 0 (MQ below (va_Qv (fun S' => Post S') (fun (S' : MST) t => va_P D vwCl (mW cI cZ h0 q S') t.heap ∧ va_D A (mW cI cZ h0 q S')) A) ([.ref h0, .int a1, .ref (q 51), .int a3, .int a4] : List Value).toArray s 0 0 A) (F0 m 60 ls []) := by
      intro S_60 x60_1 x60_3 H locs ls h hP hD hS hl
      unfold wj_X12_call_f_60 at h
      refine lv_aload_n hx hb dX12_call_60 rfl (lv_at hl 0 rfl) ?_
      refine va_get (D := D) (ci := 12) (v := .int (S_60 37 0)) (C := RX12) (T := TX12) (N := 52) hx hb hts (fun _ h => List.mem_cons_of_mem _ (List.mem_append_right _ h)) hown hK hP 0 rfl rfl 37 (by decide) (hts (.fieldLink RX12 236 "TemplateForgeModel" "open" "I") (List.mem_of_getElem? (i := 1) rfl)) (fun _ h9 => h9) rfl dX12_call_61 ?_
      refine lv_istore (lv' := [(5, .int (S_60 37 0)), (0, .ref h0), (1, .int x60_1), (2, .ref (q 51)), (3, .int x60_3)]) hx hb dX12_call_64 hl (by decide) rfl (fun ls hl => ?_)
      refine lv_aload_n hx hb dX12_call_66 rfl (lv_at hl 1 rfl) ?_
      refine va_get (D := D) (ci := 12) (v := .ref (q 38)) (C := RX12) (T := TX12) (N := 52) hx hb hts (fun _ h => List.mem_cons_of_mem _ (List.mem_append_right _ h)) hown hK hP 0 rfl rfl 38 (by decide) (hts (.fieldLink RX12 111 "TemplateForgeModel" "frameMethod" "[I") (List.mem_of_getElem? (i := 2) rfl)) (fun _ h9 => h9) rfl dX12_call_67 ?_
      refine lv_iload hx hb dX12_call_70 (lv_at hl 0 rfl) ?_
      refine lv_iload_n hx hb dX12_call_72 rfl (lv_at hl 2 rfl) ?_
      have hin_2 := h.1
      have h := h.2
      refine va_iast hx hb hK hP hD hS 34 0 rfl rfl hin_2 dX12_call_73 (fun H locs hP hD hS => ?_)
      obtain ⟨S2, eS2⟩ : ∃ z, z = ms S_60 38 (upd (S_60 38) (S_60 37 0 : Int32).toNatClampNeg x60_1) := ⟨_, rfl⟩
      have hP : va_P D vwCl (mW cI cZ h0 q S2) H := by rw [eS2]; exact hP
      have hD : va_D A (mW cI cZ h0 q S2) := by rw [eS2]; exact hD
      have h := h S2 eS2
      refine lv_aload_n hx hb dX12_call_74 rfl (lv_at hl 1 rfl) ?_
      refine va_get (D := D) (ci := 12) (v := .ref (q 39)) (C := RX12) (T := TX12) (N := 52) hx hb hts (fun _ h => List.mem_cons_of_mem _ (List.mem_append_right _ h)) hown hK hP 0 rfl rfl 39 (by decide) (hts (.fieldLink RX12 114 "TemplateForgeModel" "frameAt" "[I") (List.mem_of_getElem? (i := 3) rfl)) (fun _ h9 => h9) rfl dX12_call_75 ?_
      refine lv_iload hx hb dX12_call_78 (lv_at hl 0 rfl) ?_
      refine lv_iconst (v := 0) hx hb dX12_call_80 (by decide) ?_
      have hin_3 := h.1
      have h := h.2
      refine va_iast hx hb hK hP hD hS 35 0 rfl rfl hin_3 dX12_call_81 (fun H locs hP hD hS => ?_)
      obtain ⟨S3, eS3⟩ : ∃ z, z = ms S2 39 (upd (S2 39) (S_60 37 0 : Int32).toNatClampNeg 0) := ⟨_, rfl⟩
      have hP : va_P D vwCl (mW cI cZ h0 q S3) H := by rw [eS3]; exact hP
      have hD : va_D A (mW cI cZ h0 q S3) := by rw [eS3]; exact hD
      have h := h S3 eS3
      refine lv_aload_n hx hb dX12_call_82 rfl (lv_at hl 1 rfl) ?_
      refine va_get (D := D) (ci := 12) (v := .ref (q 41)) (C := RX12) (T := TX12) (N := 52) hx hb hts (fun _ h => List.mem_cons_of_mem _ (List.mem_append_right _ h)) hown hK hP 0 rfl rfl 41 (by decide) (hts (.fieldLink RX12 120 "TemplateForgeModel" "frameDepth" "[I") (List.mem_of_getElem? (i := 4) rfl)) (fun _ h9 => h9) rfl dX12_call_83 ?_
      refine lv_iload hx hb dX12_call_86 (lv_at hl 0 rfl) ?_
      refine lv_iconst (v := 0) hx hb dX12_call_88 (by decide) ?_
      have hin_4 := h.1
      have h := h.2
      refine va_iast hx hb hK hP hD hS 37 0 rfl rfl hin_4 dX12_call_89 (fun H locs hP hD hS => ?_)
      obtain ⟨S4, eS4⟩ : ∃ z, z = ms S3 41 (upd (S3 41) (S_60 37 0 : Int32).toNatClampNeg 0) := ⟨_, rfl⟩
      have hP : va_P D vwCl (mW cI cZ h0 q S4) H := by rw [eS4]; exact hP
      have hD : va_D A (mW cI cZ h0 q S4) := by rw [eS4]; exact hD
      have h := h S4 eS4
      refine lv_iconst (v := 0) hx hb dX12_call_90 (by decide) ?_
      refine lv_istore (lv' := [(6, .int 0), (5, .int (S_60 37 0)), (0, .ref h0), (1, .int x60_1), (2, .ref (q 51)), (3, .int x60_3)]) hx hb dX12_call_91 hl (by decide) rfl (fun ls hl => ?_)
      have EX_93_140 : ∀ (S_140 : MST) (x140_1 : Int32) (x140_3 : Int32) (x140_5 : Int32) (H : Heap) (locs : List Loc) (ls : Array Slot), (vp_in x140_1 8 ∧ (((((S_140 15 (x140_1 : Int32).toNatClampNeg) : Int32) = 0) → (vp_in x140_5 16 ∧ (∀ S7 : MST, S7 = ms S_140 40 (upd (S_140 40) (x140_5 : Int32).toNatClampNeg (-1)) → (wp_X12_remember_f S7 x140_1 x140_3 (fun S8 => wj_X12_call_f_199 S8  Post))))) ∧ ((¬ (((S_140 15 (x140_1 : Int32).toNatClampNeg) : Int32) = 0)) → (wp_X12_codeNow S_140 x140_1 (fun r9 => vp_in x140_5 16 ∧ (∀ S10 : MST, S10 = ms S_140 40 (upd (S_140 40) (x140_5 : Int32).toNatClampNeg r9) → (vp_in x140_1 8 ∧ (vp_in x140_1 8 ∧ (∀ S12 : MST, S12 = ms S10 19 (upd (S10 19) (x140_1 : Int32).toNatClampNeg ((S10 19 (x140_1 : Int32).toNatClampNeg) + 1)) → (∀ S13 : MST, S13 = ms S12 46 (fun _ => (S12 46 0) + 1) → (wj_X12_call_f_199 S13  Post))))))))))) → va_P D vwCl (mW cI cZ h0 q S_140) H → va_D A (mW cI cZ h0 q S_140) → va_S A s.heap H locs → lv_has ls 7 [(0, .ref h0), (1, .int x140_1), (2, .ref (q 51)), (3, .int x140_3), (5, .int x140_5)] → W p l e (headSpec zw_zd_X12_call_f ({ frames := 6, cells := 0, slots := 0, locals := 139 })).room s m ([.ref h0, .int a1, .ref (q 51), .int a3, .int a4] : List Value).toArray below meth c H locs 0 0 (MQ below (va_Qv (fun S' => Post S') (fun (S' : MST) t => va_P D vwCl (mW cI cZ h0 q S') t.heap ∧ va_D A (mW cI cZ h0 q S')) A) ([.ref h0, .int a1, .ref (q 51), .int a3, .int a4] : List Value).toArray s 0 0 A) (F0 m 140 ls []) := by
        intro S_140 x140_1 x140_3 x140_5 H locs ls h hP hD hS hl
        refine lv_aload_n hx hb dX12_call_140 rfl (lv_at hl 0 rfl) ?_
        refine va_get (D := D) (ci := 12) (v := .ref (q 15)) (C := RX12) (T := TX12) (N := 52) hx hb hts (fun _ h => List.mem_cons_of_mem _ (List.mem_append_right _ h)) hown hK hP 0 rfl rfl 15 (by decide) (hts (.fieldLink RX12 50 "TemplateForgeModel" "hasCode" "[Z") (List.mem_of_getElem? (i := 5) rfl)) (fun _ h9 => h9) rfl dX12_call_141 ?_
        refine lv_iload_n hx hb dX12_call_144 rfl (lv_at hl 1 rfl) ?_
        have hin_5 := h.1
        have h := h.2
        refine va_zald hx hb hK hP 14 1 rfl rfl hin_5 dX12_call_145 ?_
        refine lv_if_eq (tgt := 184) hx hb dX12_call_146 (by decide) (fun c_6 => ?_) (fun c_6 => ?_)
        · have h := h.1 c_6
          refine lv_aload_n hx hb dX12_call_184 rfl (lv_at hl 0 rfl) ?_
          refine va_get (D := D) (ci := 12) (v := .ref (q 40)) (C := RX12) (T := TX12) (N := 52) hx hb hts (fun _ h => List.mem_cons_of_mem _ (List.mem_append_right _ h)) hown hK hP 0 rfl rfl 40 (by decide) (hts (.fieldLink RX12 117 "TemplateForgeModel" "frameCode" "[I") (List.mem_of_getElem? (i := 6) rfl)) (fun _ h9 => h9) rfl dX12_call_185 ?_
          refine lv_iload hx hb dX12_call_188 (lv_at hl 4 rfl) ?_
          refine lv_iconst (v := (-1)) hx hb dX12_call_190 (by decide) ?_
          have hin_7 := h.1
          have h := h.2
          refine va_iast hx hb hK hP hD hS 36 0 rfl rfl hin_7 dX12_call_191 (fun H locs hP hD hS => ?_)
          obtain ⟨S7, eS7⟩ : ∃ z, z = ms S_140 40 (upd (S_140 40) (x140_5 : Int32).toNatClampNeg (-1)) := ⟨_, rfl⟩
          have hP : va_P D vwCl (mW cI cZ h0 q S7) H := by rw [eS7]; exact hP
          have hD : va_D A (mW cI cZ h0 q S7) := by rw [eS7]; exact hD
          have h := h S7 eS7
          refine lv_aload_n hx hb dX12_call_192 rfl (lv_at hl 0 rfl) ?_
          refine lv_iload_n hx hb dX12_call_193 rfl (lv_at hl 1 rfl) ?_
          refine lv_aload_n hx hb dX12_call_194 rfl (lv_at hl 2 rfl) ?_
          refine lv_iload_n hx hb dX12_call_195 rfl (lv_at hl 3 rfl) ?_
          have hFc := zm_free hD hS hA
          refine va_callv (va_runV (As := [.int x140_1, .ref (q 51), .int x140_3]) (rest := []) ⟨hx, hb, hml, hown, hts⟩ (zd_X12_remember_f l D cI cZ cP cF h0 q S7 x140_1 x140_3 H.size _ h) (cwV 3 hts zg_zd_X12_call_f_zd_X12_remember_f_255 rfl rfl rfl (by decide +kernel) ⟨Nat.le_of_ble_eq_true rfl, Nat.le_of_ble_eq_true rfl⟩) ⟨zBW, va_recv hK hP (ci := 12) (q0 := 0) rfl rfl, fun U hU hW => ⟨rfl, by rw [hU], by rw [hU]; exact hP, hE.warm hW, hD.weaken (fun _ _ _ _ => trivial)⟩⟩ rfl rfl hl.1 rfl (lv_room (Nat.le_of_ble_eq_true rfl)) dX12_call_196 ⟨Nat.le_of_ble_eq_true rfl, Nat.le_of_ble_eq_true rfl⟩) hS (fun q _ h => hFc q h) hFc (fun S8 t H locs ht hvm h hB hz1 hk1 hS => ?_)
          obtain ⟨hP, hD1⟩ := hB
          rw [ht] at hP
          have hD := hD1.weaken (fun k q _ hq => hFc q.1 hq)
          exact J_199  S8  H locs _ h hP hD hS (lv_sub hl [0] rfl)
        · have h := h.2 c_6
          refine lv_aload_n hx hb dX12_call_149 rfl (lv_at hl 0 rfl) ?_
          refine va_get (D := D) (ci := 12) (v := .ref (q 40)) (C := RX12) (T := TX12) (N := 52) hx hb hts (fun _ h => List.mem_cons_of_mem _ (List.mem_append_right _ h)) hown hK hP 0 rfl rfl 40 (by decide) (hts (.fieldLink RX12 117 "TemplateForgeModel" "frameCode" "[I") (List.mem_of_getElem? (i := 6) rfl)) (fun _ h9 => h9) rfl dX12_call_150 ?_
          refine lv_iload hx hb dX12_call_153 (lv_at hl 4 rfl) ?_
          refine lv_aload_n hx hb dX12_call_155 rfl (lv_at hl 0 rfl) ?_
          refine lv_iload_n hx hb dX12_call_156 rfl (lv_at hl 1 rfl) ?_
          refine vp_callSi (va_Run.run (va_runV (As := [.int x140_1]) (rest := [.int x140_5, .ref (q 40)]) ⟨hx, hb, hml, hown, hts⟩ (zd_X12_codeNow l D cI cZ cP cF h0 q S_140 x140_1  _ h) (cwV 1 hts zg_zd_X12_call_f_zd_X12_codeNow_217 rfl rfl rfl (by decide +kernel) ⟨Nat.le_of_ble_eq_true rfl, Nat.le_of_ble_eq_true rfl⟩) ⟨zBR, va_recv hK hP (ci := 12) (q0 := 0) rfl rfl, fun U hU hW => ⟨rfl, by rw [hU]; exact hP, hE.warm hW⟩⟩ rfl rfl hl.1 rfl (lv_room (Nat.le_of_ble_eq_true rfl)) dX12_call_157 ⟨Nat.le_of_ble_eq_true rfl, Nat.le_of_ble_eq_true rfl⟩)) (fun r9 h => ?_)
          have hin_10 := h.1
          have h := h.2
          refine va_iast hx hb hK hP hD hS 36 0 rfl rfl hin_10 dX12_call_160 (fun H locs hP hD hS => ?_)
          obtain ⟨S10, eS10⟩ : ∃ z, z = ms S_140 40 (upd (S_140 40) (x140_5 : Int32).toNatClampNeg r9) := ⟨_, rfl⟩
          have hP : va_P D vwCl (mW cI cZ h0 q S10) H := by rw [eS10]; exact hP
          have hD : va_D A (mW cI cZ h0 q S10) := by rw [eS10]; exact hD
          have h := h S10 eS10
          refine lv_aload_n hx hb dX12_call_161 rfl (lv_at hl 0 rfl) ?_
          refine va_get (D := D) (ci := 12) (v := .ref (q 19)) (C := RX12) (T := TX12) (N := 52) hx hb hts (fun _ h => List.mem_cons_of_mem _ (List.mem_append_right _ h)) hown hK hP 0 rfl rfl 19 (by decide) (hts (.fieldLink RX12 62 "TemplateForgeModel" "codeCalls" "[I") (List.mem_of_getElem? (i := 22) rfl)) (fun _ h9 => h9) rfl dX12_call_162 ?_
          refine lv_iload_n hx hb dX12_call_165 rfl (lv_at hl 1 rfl) ?_
          refine lv_dup2_11 hx hb dX12_call_166 rfl rfl ?_
          have hin_11 := h.1
          have h := h.2
          refine va_iald hx hb hK hP 18 0 rfl rfl hin_11 dX12_call_167 ?_
          refine lv_iconst (v := 1) hx hb dX12_call_168 (by decide) ?_
          refine lv_iadd hx hb dX12_call_169 ?_
          have hin_12 := h.1
          have h := h.2
          refine va_iast hx hb hK hP hD hS 18 0 rfl rfl hin_12 dX12_call_170 (fun H locs hP hD hS => ?_)
          obtain ⟨S12, eS12⟩ : ∃ z, z = ms S10 19 (upd (S10 19) (x140_1 : Int32).toNatClampNeg ((S10 19 (x140_1 : Int32).toNatClampNeg) + 1)) := ⟨_, rfl⟩
          have hP : va_P D vwCl (mW cI cZ h0 q S12) H := by rw [eS12]; exact hP
          have hD : va_D A (mW cI cZ h0 q S12) := by rw [eS12]; exact hD
          have h := h S12 eS12
          refine lv_aload_n hx hb dX12_call_171 rfl (lv_at hl 0 rfl) ?_
          refine lv_dup hx hb dX12_call_172 rfl ?_
          refine va_get (D := D) (ci := 12) (v := .int (S12 46 0)) (C := RX12) (T := TX12) (N := 52) hx hb hts (fun _ h => List.mem_cons_of_mem _ (List.mem_append_right _ h)) hown hK hP 0 rfl rfl 46 (by decide) (hts (.fieldLink RX12 252 "TemplateForgeModel" "callsByCode" "I") (List.mem_of_getElem? (i := 23) rfl)) (fun _ h9 => h9) rfl dX12_call_173 ?_
          refine lv_iconst (v := 1) hx hb dX12_call_176 (by decide) ?_
          refine lv_iadd hx hb dX12_call_177 ?_
          refine va_put (D := D) (ci := 12) (v := .int ((S12 46 0) + 1)) (ty := .int) (C := RX12) (T := TX12) (N := 52) hx hb hts (fun _ h => List.mem_cons_of_mem _ (List.mem_append_right _ h)) tyX12 tyX12_ok nmX12 hown hK hP hD hS 0 rfl rfl 46 (by decide) (hts (.fieldLink RX12 252 "TemplateForgeModel" "callsByCode" "I") (List.mem_of_getElem? (i := 23) rfl)) (fun _ h9 => h9) rfl (by decide +kernel) rfl rfl (Nat.le_of_ble_eq_true rfl) dX12_call_178 (fun H locs hP hD hS => ?_)
          obtain ⟨S13, eS13⟩ : ∃ z, z = ms S12 46 (fun _ => (S12 46 0) + 1) := ⟨_, rfl⟩
          have hP : va_P D vwCl (mW cI cZ h0 q S13) H := by rw [eS13]; exact hP
          have hD : va_D A (mW cI cZ h0 q S13) := by rw [eS13]; exact hD
          have h := h S13 eS13
          refine lv_goto (tgt := 199) hx hb dX12_call_181 (by decide) ?_
          exact J_199  S13  H locs _ h hP hD hS (lv_sub hl [0] rfl)
      have LP_93 : ∀ (n_93 : Nat), ∀ (S_93 : MST) (x93_1 : Int32) (x93_3 : Int32) (x93_5 : Int32) (x93_6 : Int32) (H : Heap) (locs : List Loc) (ls : Array Slot), wl_X12_call_f_93 (fun S_140 x140_1 x140_3 x140_5 => vp_in x140_1 8 ∧ (((((S_140 15 (x140_1 : Int32).toNatClampNeg) : Int32) = 0) → (vp_in x140_5 16 ∧ (∀ S7 : MST, S7 = ms S_140 40 (upd (S_140 40) (x140_5 : Int32).toNatClampNeg (-1)) → (wp_X12_remember_f S7 x140_1 x140_3 (fun S8 => wj_X12_call_f_199 S8  Post))))) ∧ ((¬ (((S_140 15 (x140_1 : Int32).toNatClampNeg) : Int32) = 0)) → (wp_X12_codeNow S_140 x140_1 (fun r9 => vp_in x140_5 16 ∧ (∀ S10 : MST, S10 = ms S_140 40 (upd (S_140 40) (x140_5 : Int32).toNatClampNeg r9) → (vp_in x140_1 8 ∧ (vp_in x140_1 8 ∧ (∀ S12 : MST, S12 = ms S10 19 (upd (S10 19) (x140_1 : Int32).toNatClampNeg ((S10 19 (x140_1 : Int32).toNatClampNeg) + 1)) → (∀ S13 : MST, S13 = ms S12 46 (fun _ => (S12 46 0) + 1) → (wj_X12_call_f_199 S13  Post))))))))))) Post n_93 S_93 x93_1 x93_3 x93_5 x93_6 → va_P D vwCl (mW cI cZ h0 q S_93) H → va_D A (mW cI cZ h0 q S_93) → va_S A s.heap H locs → lv_has ls 7 [(0, .ref h0), (1, .int x93_1), (2, .ref (q 51)), (3, .int x93_3), (5, .int x93_5), (6, .int x93_6)] → W p l e (headSpec zw_zd_X12_call_f ({ frames := 6, cells := 0, slots := 0, locals := 139 })).room s m ([.ref h0, .int a1, .ref (q 51), .int a3, .int a4] : List Value).toArray below meth c H locs 0 0 (MQ below (va_Qv (fun S' => Post S') (fun (S' : MST) t => va_P D vwCl (mW cI cZ h0 q S') t.heap ∧ va_D A (mW cI cZ h0 q S')) A) ([.ref h0, .int a1, .ref (q 51), .int a3, .int a4] : List Value).toArray s 0 0 A) (F0 m 93 ls []) := by
        intro n_93
        induction n_93 with
        | zero =>
          intro S_93 x93_1 x93_3 x93_5 x93_6 H locs ls h hP hD hS hl
          exact False.elim h
        | succ n_93 ih_93 =>
          intro S_93 x93_1 x93_3 x93_5 x93_6 H locs ls h hP hD hS hl
          unfold wl_X12_call_f_93 at h
          refine lv_iload hx hb dX12_call_93 (lv_at hl 5 rfl) ?_
          refine lv_bipush (v := 15) hx hb dX12_call_95 (by decide) ?_
          refine lv_icmp_ge (tgt := 140) hx hb dX12_call_97 (by decide) (fun c_14 => ?_) (fun c_14 => ?_)
          · have h := h.1 c_14
            exact EX_93_140  S_93 x93_1 x93_3 x93_5 H locs _ h hP hD hS (lv_sub hl [0, 1, 2, 3, 4] rfl)
          · have h := h.2 c_14
            refine lv_aload_n hx hb dX12_call_100 rfl (lv_at hl 0 rfl) ?_
            refine va_get (D := D) (ci := 12) (v := .ref (q 42)) (C := RX12) (T := TX12) (N := 52) hx hb hts (fun _ h => List.mem_cons_of_mem _ (List.mem_append_right _ h)) hown hK hP 0 rfl rfl 42 (by decide) (hts (.fieldLink RX12 123 "TemplateForgeModel" "register" "[I") (List.mem_of_getElem? (i := 24) rfl)) (fun _ h9 => h9) rfl dX12_call_101 ?_
            refine lv_bipush (v := 15) hx hb dX12_call_104 (by decide) ?_
            refine lv_iload hx hb dX12_call_106 (lv_at hl 4 rfl) ?_
            refine lv_imul hx hb dX12_call_108 ?_
            refine lv_iload hx hb dX12_call_109 (lv_at hl 5 rfl) ?_
            refine lv_iadd hx hb dX12_call_111 ?_
            refine lv_iload hx hb dX12_call_112 (lv_at hl 5 rfl) ?_
            refine lv_aload_n hx hb dX12_call_114 rfl (lv_at hl 0 rfl) ?_
            refine va_get (D := D) (ci := 12) (v := .ref (q 1)) (C := RX12) (T := TX12) (N := 52) hx hb hts (fun _ h => List.mem_cons_of_mem _ (List.mem_append_right _ h)) hown hK hP 0 rfl rfl 1 (by decide) (hts (.fieldLink RX12 7 "TemplateForgeModel" "args" "[I") (List.mem_of_getElem? (i := 12) rfl)) (fun _ h9 => h9) rfl dX12_call_115 ?_
            refine lv_iload_n hx hb dX12_call_118 rfl (lv_at hl 1 rfl) ?_
            have hin_15 := h.1
            have h := h.2
            refine va_iald hx hb hK hP 1 0 rfl rfl hin_15 dX12_call_119 ?_
            refine lv_icmp_ge (tgt := 132) hx hb dX12_call_120 (by decide) (fun c_16 => ?_) (fun c_16 => ?_)
            · have h := h.1 c_16
              refine lv_iconst (v := 0) hx hb dX12_call_132 (by decide) ?_
              have hin_17 := h.1
              have h := h.2
              refine va_iast hx hb hK hP hD hS 38 0 rfl rfl hin_17 dX12_call_133 (fun H locs hP hD hS => ?_)
              obtain ⟨S17, eS17⟩ : ∃ z, z = ms S_93 42 (upd (S_93 42) ((15 * x93_5) + x93_6 : Int32).toNatClampNeg 0) := ⟨_, rfl⟩
              have hP : va_P D vwCl (mW cI cZ h0 q S17) H := by rw [eS17]; exact hP
              have hD : va_D A (mW cI cZ h0 q S17) := by rw [eS17]; exact hD
              have h := h S17 eS17
              refine lv_iinc (v := x93_6 + 1) (lv' := [(6, .int (x93_6 + 1)), (0, .ref h0), (1, .int x93_1), (2, .ref (q 51)), (3, .int x93_3), (5, .int x93_5)]) hx hb dX12_call_134 hl (k := 5) rfl rfl (by decide) rfl (fun ls hl => ?_)
              refine lv_goto (tgt := 93) hx hb dX12_call_137 (by decide) ?_
              exact ih_93  S17 x93_1 x93_3 x93_5 (x93_6 + 1) H locs _ h hP hD hS (lv_sub hl [1, 2, 3, 4, 5, 0] rfl)
            · have h := h.2 c_16
              refine lv_aload_n hx hb dX12_call_123 rfl (lv_at hl 2 rfl) ?_
              refine lv_iload_n hx hb dX12_call_124 rfl (lv_at hl 3 rfl) ?_
              refine lv_iload hx hb dX12_call_125 (lv_at hl 5 rfl) ?_
              refine lv_iadd hx hb dX12_call_127 ?_
              have hin_18 := h.1
              have h := h.2
              refine va_iald hx hb hK hP 40 0 rfl rfl hin_18 dX12_call_128 ?_
              refine lv_goto (tgt := 133) hx hb dX12_call_129 (by decide) ?_
              have hin_19 := h.1
              have h := h.2
              refine va_iast hx hb hK hP hD hS 38 0 rfl rfl hin_19 dX12_call_133 (fun H locs hP hD hS => ?_)
              obtain ⟨S19, eS19⟩ : ∃ z, z = ms S_93 42 (upd (S_93 42) ((15 * x93_5) + x93_6 : Int32).toNatClampNeg (S_93 51 (x93_3 + x93_6 : Int32).toNatClampNeg)) := ⟨_, rfl⟩
              have hP : va_P D vwCl (mW cI cZ h0 q S19) H := by rw [eS19]; exact hP
              have hD : va_D A (mW cI cZ h0 q S19) := by rw [eS19]; exact hD
              have h := h S19 eS19
              refine lv_iinc (v := x93_6 + 1) (lv' := [(6, .int (x93_6 + 1)), (0, .ref h0), (1, .int x93_1), (2, .ref (q 51)), (3, .int x93_3), (5, .int x93_5)]) hx hb dX12_call_134 hl (k := 5) rfl rfl (by decide) rfl (fun ls hl => ?_)
              refine lv_goto (tgt := 93) hx hb dX12_call_137 (by decide) ?_
              exact ih_93  S19 x93_1 x93_3 x93_5 (x93_6 + 1) H locs _ h hP hD hS (lv_sub hl [1, 2, 3, 4, 5, 0] rfl)
      obtain ⟨n_93, h⟩ := h
      exact LP_93 n_93 S4 x60_1 x60_3 (S_60 37 0) 0 H locs _ h hP hD hS (lv_sub hl [2, 3, 4, 5, 1, 0] rfl)
    refine lv_aload_n hx hb dX12_call_0 rfl (lv_at hl 0 rfl) ?_
    refine va_get (D := D) (ci := 12) (v := .int (S 37 0)) (C := RX12) (T := TX12) (N := 52) hx hb hts (fun _ h => List.mem_cons_of_mem _ (List.mem_append_right _ h)) hown hK hP 0 rfl rfl 37 (by decide) (hts (.fieldLink RX12 236 "TemplateForgeModel" "open" "I") (List.mem_of_getElem? (i := 1) rfl)) (fun _ h9 => h9) rfl dX12_call_1 ?_
    refine lv_bipush (v := 16) hx hb dX12_call_4 (by decide) ?_
    refine lv_icmp_ne (tgt := 18) hx hb dX12_call_6 (by decide) (fun c_20 => ?_) (fun c_20 => ?_)
    · have h := h.1 c_20
      refine lv_aload_n hx hb dX12_call_18 rfl (lv_at hl 0 rfl) ?_
      have hFc := zm_free hD hS hA
      refine va_calli (va_runV (As := []) (rest := []) ⟨hx, hb, hml, hown, hts⟩ (zd_X12_stepOn l D cI cZ cP cF h0 q S  H.size _ h) (cwV 0 hts zg_zd_X12_call_f_zd_X12_stepOn_242 rfl rfl rfl (by decide +kernel) ⟨Nat.le_of_ble_eq_true rfl, Nat.le_of_ble_eq_true rfl⟩) ⟨zBW, va_recv hK hP (ci := 12) (q0 := 0) rfl rfl, fun U hU hW => ⟨rfl, by rw [hU], by rw [hU]; exact hP, hE.warm hW, hD.weaken (fun _ _ _ _ => trivial)⟩⟩ rfl rfl hl.1 rfl (lv_room (Nat.le_of_ble_eq_true rfl)) dX12_call_19 ⟨Nat.le_of_ble_eq_true rfl, Nat.le_of_ble_eq_true rfl⟩) hS (fun q _ h => hFc q h) hFc (fun r21 S21 t H locs ht hvm h hB hz1 hk1 hS => ?_)
      obtain ⟨hP, hD1⟩ := hB
      rw [ht] at hP
      have hD := hD1.weaken (fun k q _ hq => hFc q.1 hq)
      refine lv_if_ne (tgt := 26) hx hb dX12_call_22 (by decide) (fun c_22 => ?_) (fun c_22 => ?_)
      · have h := h.1 c_22
        refine lv_aload_n hx hb dX12_call_26 rfl (lv_at hl 0 rfl) ?_
        refine lv_dup hx hb dX12_call_27 rfl ?_
        refine va_get (D := D) (ci := 12) (v := .int (S21 45 0)) (C := RX12) (T := TX12) (N := 52) hx hb hts (fun _ h => List.mem_cons_of_mem _ (List.mem_append_right _ h)) hown hK hP 0 rfl rfl 45 (by decide) (hts (.fieldLink RX12 246 "TemplateForgeModel" "calls" "I") (List.mem_of_getElem? (i := 31) rfl)) (fun _ h9 => h9) rfl dX12_call_28 ?_
        refine lv_iconst (v := 1) hx hb dX12_call_31 (by decide) ?_
        refine lv_iadd hx hb dX12_call_32 ?_
        refine va_put (D := D) (ci := 12) (v := .int ((S21 45 0) + 1)) (ty := .int) (C := RX12) (T := TX12) (N := 52) hx hb hts (fun _ h => List.mem_cons_of_mem _ (List.mem_append_right _ h)) tyX12 tyX12_ok nmX12 hown hK hP hD hS 0 rfl rfl 45 (by decide) (hts (.fieldLink RX12 246 "TemplateForgeModel" "calls" "I") (List.mem_of_getElem? (i := 31) rfl)) (fun _ h9 => h9) rfl (by decide +kernel) rfl rfl (Nat.le_of_ble_eq_true rfl) dX12_call_33 (fun H locs hP hD hS => ?_)
        obtain ⟨S23, eS23⟩ : ∃ z, z = ms S21 45 (fun _ => (S21 45 0) + 1) := ⟨_, rfl⟩
        have hP : va_P D vwCl (mW cI cZ h0 q S23) H := by rw [eS23]; exact hP
        have hD : va_D A (mW cI cZ h0 q S23) := by rw [eS23]; exact hD
        have h := h S23 eS23
        refine lv_aload_n hx hb dX12_call_36 rfl (lv_at hl 0 rfl) ?_
        refine va_get (D := D) (ci := 12) (v := .ref (q 15)) (C := RX12) (T := TX12) (N := 52) hx hb hts (fun _ h => List.mem_cons_of_mem _ (List.mem_append_right _ h)) hown hK hP 0 rfl rfl 15 (by decide) (hts (.fieldLink RX12 50 "TemplateForgeModel" "hasCode" "[Z") (List.mem_of_getElem? (i := 5) rfl)) (fun _ h9 => h9) rfl dX12_call_37 ?_
        refine lv_iload_n hx hb dX12_call_40 rfl (lv_at hl 1 rfl) ?_
        have hin_24 := h.1
        have h := h.2
        refine va_zald hx hb hK hP 14 1 rfl rfl hin_24 dX12_call_41 ?_
        refine lv_if_ne (tgt := 60) hx hb dX12_call_42 (by decide) (fun c_25 => ?_) (fun c_25 => ?_)
        · have h := h.1 c_25
          exact J_60  S23 a1 a3 H locs _ h hP hD hS (lv_sub hl [0, 1, 2, 3] rfl)
        · have h := h.2 c_25
          refine lv_aload_n hx hb dX12_call_45 rfl (lv_at hl 0 rfl) ?_
          refine va_get (D := D) (ci := 12) (v := .ref (q 16)) (C := RX12) (T := TX12) (N := 52) hx hb hts (fun _ h => List.mem_cons_of_mem _ (List.mem_append_right _ h)) hown hK hP 0 rfl rfl 16 (by decide) (hts (.fieldLink RX12 53 "TemplateForgeModel" "counted" "[I") (List.mem_of_getElem? (i := 8) rfl)) (fun _ h9 => h9) rfl dX12_call_46 ?_
          refine lv_iload_n hx hb dX12_call_49 rfl (lv_at hl 1 rfl) ?_
          have hin_26 := h.1
          have h := h.2
          refine va_iald hx hb hK hP 15 0 rfl rfl hin_26 dX12_call_50 ?_
          refine lv_iconst (v := 3) hx hb dX12_call_51 (by decide) ?_
          refine lv_icmp_ne (tgt := 60) hx hb dX12_call_52 (by decide) (fun c_27 => ?_) (fun c_27 => ?_)
          · have h := h.1 c_27
            exact J_60  S23 a1 a3 H locs _ h hP hD hS (lv_sub hl [0, 1, 2, 3] rfl)
          · have h := h.2 c_27
            refine lv_aload_n hx hb dX12_call_55 rfl (lv_at hl 0 rfl) ?_
            refine lv_iload_n hx hb dX12_call_56 rfl (lv_at hl 1 rfl) ?_
            have hFc := zm_free hD hS hA
            refine va_callv (va_runV (As := [.int a1]) (rest := []) ⟨hx, hb, hml, hown, hts⟩ (zd_X12_makeCode l D cI cZ cP cF h0 q S23 a1 H.size _ h) (cwV 1 hts zg_zd_X12_call_f_zd_X12_makeCode_249 rfl rfl rfl (by decide +kernel) ⟨Nat.le_of_ble_eq_true rfl, Nat.le_of_ble_eq_true rfl⟩) ⟨zBW, va_recv hK hP (ci := 12) (q0 := 0) rfl rfl, fun U hU hW => ⟨rfl, by rw [hU], by rw [hU]; exact hP, hE.warm hW, hD.weaken (fun _ _ _ _ => trivial)⟩⟩ rfl rfl hl.1 rfl (lv_room (Nat.le_of_ble_eq_true rfl)) dX12_call_57 ⟨Nat.le_of_ble_eq_true rfl, Nat.le_of_ble_eq_true rfl⟩) hS (fun q _ h => hFc q h) hFc (fun S28 t H locs ht hvm h hB hz1 hk1 hS => ?_)
            obtain ⟨hP, hD1⟩ := hB
            rw [ht] at hP
            have hD := hD1.weaken (fun k q _ hq => hFc q.1 hq)
            exact J_60  S28 a1 a3 H locs _ h hP hD hS (lv_sub hl [0, 1, 2, 3] rfl)
      · have h := h.2 c_22
        exact W.vret hx hb hr (fun t ht hW => ⟨⟨S21, rfl, h, by rw [ht]; exact hP, hD⟩, hS.F ht⟩) hS.2.2 dX12_call_25
    · have h := h.2 c_20
      refine lv_aload_n hx hb dX12_call_9 rfl (lv_at hl 0 rfl) ?_
      refine lv_bipush (v := 6) hx hb dX12_call_10 (by decide) ?_
      refine lv_iload hx hb dX12_call_12 (lv_at hl 4 rfl) ?_
      have hFc := zm_free hD hS hA
      refine va_callv (va_runV (As := [.int 6, .int a4]) (rest := []) ⟨hx, hb, hml, hown, hts⟩ (zd_X12_traps l D cI cZ cP cF h0 q S 6 a4 H.size _ h) (cwV 2 hts zg_zd_X12_call_f_zd_X12_traps_239 rfl rfl rfl (by decide +kernel) ⟨Nat.le_of_ble_eq_true rfl, Nat.le_of_ble_eq_true rfl⟩) ⟨zBW, va_recv hK hP (ci := 12) (q0 := 0) rfl rfl, fun U hU hW => ⟨rfl, by rw [hU], by rw [hU]; exact hP, hE.warm hW, hD.weaken (fun _ _ _ _ => trivial)⟩⟩ rfl rfl hl.1 rfl (lv_room (Nat.le_of_ble_eq_true rfl)) dX12_call_14 ⟨Nat.le_of_ble_eq_true rfl, Nat.le_of_ble_eq_true rfl⟩) hS (fun q _ h => hFc q h) hFc (fun S29 t H locs ht hvm h hB hz1 hk1 hS => ?_)
      obtain ⟨hP, hD1⟩ := hB
      rw [ht] at hP
      have hD := hD1.weaken (fun k q _ hq => hFc q.1 hq)
      exact W.vret hx hb hr (fun t ht hW => ⟨⟨S29, rfl, h, by rw [ht]; exact hP, hD⟩, hS.F ht⟩) hS.2.2 dX12_call_17
  exact key _ _ hP va_S.rf
def wp_X12_comesTo (S : MST) (a1 : Int32) (a2 : Int32) (a3 : Int32) (Post : MST → Int32 → Prop) : Prop :=
  vp_in ((60 * a1) + a2) 480 ∧ (((¬ (((S 7 ((60 * a1) + a2 : Int32).toNatClampNeg) : Int32) = (-1))) → (vp_in ((60 * a1) + a2) 480 ∧ (((¬ (((S 7 ((60 * a1) + a2 : Int32).toNatClampNeg) : Int32) = a3)) → (Post S 3)) ∧ ((((S 7 ((60 * a1) + a2 : Int32).toNatClampNeg) : Int32) = a3) → (Post S 0))))) ∧ ((((S 7 ((60 * a1) + a2 : Int32).toNatClampNeg) : Int32) = (-1)) → (vp_in ((60 * a1) + a2) 480 ∧ (∀ S5 : MST, S5 = ms S 7 (upd (S 7) ((60 * a1) + a2 : Int32).toNatClampNeg a3) → (vp_in a2 60 ∧ (∀ S6 : MST, S6 = ms S5 10 (upd (S5 10) (a2 : Int32).toNatClampNeg (vp_nar .boolean 1)) → (Post S6 0)))))))
def zw_zd_X12_comesTo_w0 : List Cond := [.fieldLink RX12 29 "TemplateForgeModel" "depths" "[I", .fieldLink RX12 35 "TemplateForgeModel" "waits" "[Z"]
def zw_zd_X12_comesTo : List Cond := .code yX12_comesTo cX12_comesTo 4 (some .int) :: ((zw_zd_X12_comesTo_w0) ++ wsX120)
set_option maxHeartbeats 16000000 in
set_option maxRecDepth 100000 in
theorem zd_X12_comesTo (l : Launch) (D : va_G) (cI cZ cP cF : Nat) (h0 : Nat) (q : Nat → Nat) (S : MST) (a1 : Int32) (a2 : Int32) (a3 : Int32) (sz : Nat) (Post : MST → Int32 → Prop) (h : wp_X12_comesTo S a1 a2 a3 Post) : Met l yX12_comesTo zw_zd_X12_comesTo ({ frames := 0, cells := 0, slots := 0, locals := 0 }) (va_Pc [.ref h0, .int a1, .int a2, .int a3] (fun U => U.heap.size = sz ∧ va_P D vwCl (mW cI cZ h0 q S) U.heap ∧ zE D cI cZ cP cF U ∧ va_D (fun _ => True) (mW cI cZ h0 q S))) (va_Qi (fun r S' => Post S' r) (fun (S' : MST) t => va_P D vwCl (mW cI cZ h0 q S') t.heap ∧ va_D (va_A (mW cI cZ h0 q S) sz) (mW cI cZ h0 q S')) (va_A (mW cI cZ h0 q S) sz)) 0 0 (va_A (mW cI cZ h0 q S) sz) := by
  unfold wp_X12_comesTo at h
  refine Met.ofW (cc := cX12_comesTo) (maxL := 4) (ret := (some .int)) (by decide) rfl ?_
  intro p e s m args below meth c s₁ B hml hv
  obtain ⟨rfl, hsz, hP, hE, hD0⟩ := hv
  have hx := B.exec
  have hb := B.bytes
  have hr := B.returns
  have hts := atoms_spec (ws := zw_zd_X12_comesTo) B.pre
  have hown : s.vm.findClass RX12 = some m.cls := findClass_of_methodNamed B.named
  have hlocks := B.notSynchronized
  have hK := hE.k
  subst hsz
  have hD := hD0.self (sz := s.heap.size)
  generalize hAe : va_A (mW cI cZ h0 q S) s.heap.size = A at hD ⊢
  have hA : ∀ q : Nat, s.heap.size ≤ q → A q := fun q h => by rw [← hAe]; exact Or.inr h
  have hl := lv_entry ([.ref h0, .int a1, .int a2, .int a3]) (n := 4) (Nat.le_of_ble_eq_true rfl)
  rw [lg_entry_eq]
  generalize (lg_sl ([.ref h0, .int a1, .int a2, .int a3]) ++ List.replicate (4 - (lg_sl ([.ref h0, .int a1, .int a2, .int a3])).length) Slot.unset).toArray = ls at hl ⊢
  have hl : lv_has ls 4 [(0, .ref h0), (1, .int a1), (2, .int a2), (3, .int a3)] := hl
  have key : ∀ (H : Heap) (locs : List Loc), va_P D vwCl (mW cI cZ h0 q S) H → va_S A s.heap H locs → W p l e (headSpec zw_zd_X12_comesTo ({ frames := 0, cells := 0, slots := 0, locals := 0 })).room s m ([.ref h0, .int a1, .int a2, .int a3] : List Value).toArray below meth c H locs 0 0 (MQ below (va_Qi (fun r S' => Post S' r) (fun (S' : MST) t => va_P D vwCl (mW cI cZ h0 q S') t.heap ∧ va_D A (mW cI cZ h0 q S')) A) ([.ref h0, .int a1, .int a2, .int a3] : List Value).toArray s 0 0 A) (F0 m 0 ls []) := by
    intro H locs hP hS
    refine lv_aload_n hx hb dX12_comesTo_0 rfl (lv_at hl 0 rfl) ?_
    refine va_get (D := D) (ci := 12) (v := .ref (q 7)) (C := RX12) (T := TX12) (N := 52) hx hb hts (fun _ h => List.mem_cons_of_mem _ (List.mem_append_right _ h)) hown hK hP 0 rfl rfl 7 (by decide) (hts (.fieldLink RX12 29 "TemplateForgeModel" "depths" "[I") (List.mem_of_getElem? (i := 1) rfl)) (fun _ h9 => h9) rfl dX12_comesTo_1 ?_
    refine lv_bipush (v := 60) hx hb dX12_comesTo_4 (by decide) ?_
    refine lv_iload_n hx hb dX12_comesTo_6 rfl (lv_at hl 1 rfl) ?_
    refine lv_imul hx hb dX12_comesTo_7 ?_
    refine lv_iload_n hx hb dX12_comesTo_8 rfl (lv_at hl 2 rfl) ?_
    refine lv_iadd hx hb dX12_comesTo_9 ?_
    have hin_1 := h.1
    have h := h.2
    refine va_iald hx hb hK hP 7 0 rfl rfl hin_1 dX12_comesTo_10 ?_
    refine lv_iconst (v := (-1)) hx hb dX12_comesTo_11 (by decide) ?_
    refine lv_icmp_ne (tgt := 36) hx hb dX12_comesTo_12 (by decide) (fun c_2 => ?_) (fun c_2 => ?_)
    · have h := h.1 c_2
      refine lv_aload_n hx hb dX12_comesTo_36 rfl (lv_at hl 0 rfl) ?_
      refine va_get (D := D) (ci := 12) (v := .ref (q 7)) (C := RX12) (T := TX12) (N := 52) hx hb hts (fun _ h => List.mem_cons_of_mem _ (List.mem_append_right _ h)) hown hK hP 0 rfl rfl 7 (by decide) (hts (.fieldLink RX12 29 "TemplateForgeModel" "depths" "[I") (List.mem_of_getElem? (i := 1) rfl)) (fun _ h9 => h9) rfl dX12_comesTo_37 ?_
      refine lv_bipush (v := 60) hx hb dX12_comesTo_40 (by decide) ?_
      refine lv_iload_n hx hb dX12_comesTo_42 rfl (lv_at hl 1 rfl) ?_
      refine lv_imul hx hb dX12_comesTo_43 ?_
      refine lv_iload_n hx hb dX12_comesTo_44 rfl (lv_at hl 2 rfl) ?_
      refine lv_iadd hx hb dX12_comesTo_45 ?_
      have hin_3 := h.1
      have h := h.2
      refine va_iald hx hb hK hP 7 0 rfl rfl hin_3 dX12_comesTo_46 ?_
      refine lv_iload_n hx hb dX12_comesTo_47 rfl (lv_at hl 3 rfl) ?_
      refine lv_icmp_ne (tgt := 55) hx hb dX12_comesTo_48 (by decide) (fun c_4 => ?_) (fun c_4 => ?_)
      · have h := h.1 c_4
        refine lv_iconst (v := 3) hx hb dX12_comesTo_55 (by decide) ?_
        exact W.iret (v := 3) hx hb hr (fun t ht hW => ⟨⟨_, S, rfl, h, by rw [ht]; exact hP, hD⟩, hS.F ht⟩) hS.2.2 dX12_comesTo_56
      · have h := h.2 c_4
        refine lv_iconst (v := 0) hx hb dX12_comesTo_51 (by decide) ?_
        refine lv_goto (tgt := 56) hx hb dX12_comesTo_52 (by decide) ?_
        exact W.iret (v := 0) hx hb hr (fun t ht hW => ⟨⟨_, S, rfl, h, by rw [ht]; exact hP, hD⟩, hS.F ht⟩) hS.2.2 dX12_comesTo_56
    · have h := h.2 c_2
      refine lv_aload_n hx hb dX12_comesTo_15 rfl (lv_at hl 0 rfl) ?_
      refine va_get (D := D) (ci := 12) (v := .ref (q 7)) (C := RX12) (T := TX12) (N := 52) hx hb hts (fun _ h => List.mem_cons_of_mem _ (List.mem_append_right _ h)) hown hK hP 0 rfl rfl 7 (by decide) (hts (.fieldLink RX12 29 "TemplateForgeModel" "depths" "[I") (List.mem_of_getElem? (i := 1) rfl)) (fun _ h9 => h9) rfl dX12_comesTo_16 ?_
      refine lv_bipush (v := 60) hx hb dX12_comesTo_19 (by decide) ?_
      refine lv_iload_n hx hb dX12_comesTo_21 rfl (lv_at hl 1 rfl) ?_
      refine lv_imul hx hb dX12_comesTo_22 ?_
      refine lv_iload_n hx hb dX12_comesTo_23 rfl (lv_at hl 2 rfl) ?_
      refine lv_iadd hx hb dX12_comesTo_24 ?_
      refine lv_iload_n hx hb dX12_comesTo_25 rfl (lv_at hl 3 rfl) ?_
      have hin_5 := h.1
      have h := h.2
      refine va_iast hx hb hK hP hD hS 7 0 rfl rfl hin_5 dX12_comesTo_26 (fun H locs hP hD hS => ?_)
      obtain ⟨S5, eS5⟩ : ∃ z, z = ms S 7 (upd (S 7) ((60 * a1) + a2 : Int32).toNatClampNeg a3) := ⟨_, rfl⟩
      have hP : va_P D vwCl (mW cI cZ h0 q S5) H := by rw [eS5]; exact hP
      have hD : va_D A (mW cI cZ h0 q S5) := by rw [eS5]; exact hD
      have h := h S5 eS5
      refine lv_aload_n hx hb dX12_comesTo_27 rfl (lv_at hl 0 rfl) ?_
      refine va_get (D := D) (ci := 12) (v := .ref (q 10)) (C := RX12) (T := TX12) (N := 52) hx hb hts (fun _ h => List.mem_cons_of_mem _ (List.mem_append_right _ h)) hown hK hP 0 rfl rfl 10 (by decide) (hts (.fieldLink RX12 35 "TemplateForgeModel" "waits" "[Z") (List.mem_of_getElem? (i := 2) rfl)) (fun _ h9 => h9) rfl dX12_comesTo_28 ?_
      refine lv_iload_n hx hb dX12_comesTo_31 rfl (lv_at hl 2 rfl) ?_
      refine lv_iconst (v := 1) hx hb dX12_comesTo_32 (by decide) ?_
      have hin_6 := h.1
      have h := h.2
      refine va_zast hx hb hK hP hD hS 9 1 rfl rfl hin_6 dX12_comesTo_33 (fun H locs hP hD hS => ?_)
      obtain ⟨S6, eS6⟩ : ∃ z, z = ms S5 10 (upd (S5 10) (a2 : Int32).toNatClampNeg (vp_nar .boolean 1)) := ⟨_, rfl⟩
      have hP : va_P D vwCl (mW cI cZ h0 q S6) H := by rw [eS6]; exact hP
      have hD : va_D A (mW cI cZ h0 q S6) := by rw [eS6]; exact hD
      have h := h S6 eS6
      refine lv_iconst (v := 0) hx hb dX12_comesTo_34 (by decide) ?_
      exact W.iret (v := 0) hx hb hr (fun t ht hW => ⟨⟨_, S6, rfl, h, by rw [ht]; exact hP, hD⟩, hS.F ht⟩) hS.2.2 dX12_comesTo_35
  exact key _ _ hP va_S.rf
def wp_X12_count (S : MST) (a1 : Int32) (Post : Int32 → Prop) : Prop :=
  ((a1 : Int32).toInt < 0 ∨ 5 < (a1 : Int32).toInt → (Post (-2))) ∧ (a1 = 0 → (Post (S 0 0))) ∧ (a1 = 1 → (Post (S 48 0))) ∧ (a1 = 2 → (Post (S 44 0))) ∧ (a1 = 3 → (Post (S 45 0))) ∧ (a1 = 4 → (Post (S 46 0))) ∧ (a1 = 5 → (Post (S 47 0)))
def zw_zd_X12_count_w0 : List Cond := [.fieldLink RX12 140 "TemplateForgeModel" "methods" "I", .fieldLink RX12 285 "TemplateForgeModel" "runs" "I", .fieldLink RX12 230 "TemplateForgeModel" "steps" "I", .fieldLink RX12 246 "TemplateForgeModel" "calls" "I", .fieldLink RX12 252 "TemplateForgeModel" "callsByCode" "I", .fieldLink RX12 275 "TemplateForgeModel" "failed" "I"]
def zw_zd_X12_count : List Cond := .code yX12_count cX12_count 2 (some .int) :: ((zw_zd_X12_count_w0) ++ wsX120)
set_option maxHeartbeats 16000000 in
set_option maxRecDepth 100000 in
theorem zd_X12_count (l : Launch) (D : va_G) (cI cZ cP cF : Nat) (h0 : Nat) (q : Nat → Nat) (S : MST) (a1 : Int32) (Post : Int32 → Prop) (h : wp_X12_count S a1 Post) : Met l yX12_count zw_zd_X12_count ({ frames := 0, cells := 0, slots := 0, locals := 0 }) (va_Pc [.ref h0, .int a1] (fun U => va_P D vwCl (mW cI cZ h0 q S) U.heap ∧ zE D cI cZ cP cF U)) (vp_Si Post) 0 0 (fun _ => False) := by
  unfold wp_X12_count at h
  refine Met.ofW (cc := cX12_count) (maxL := 2) (ret := (some .int)) (by decide) rfl ?_
  intro p e s m args below meth c s₁ B hml hv
  obtain ⟨rfl, hP, hE⟩ := hv
  have hx := B.exec
  have hb := B.bytes
  have hr := B.returns
  have hts := atoms_spec (ws := zw_zd_X12_count) B.pre
  have hown : s.vm.findClass RX12 = some m.cls := findClass_of_methodNamed B.named
  have hlocks := B.notSynchronized
  have hK := hE.k
  have hl := lv_entry ([.ref h0, .int a1]) (n := 2) (Nat.le_of_ble_eq_true rfl)
  rw [lg_entry_eq]
  generalize (lg_sl ([.ref h0, .int a1]) ++ List.replicate (2 - (lg_sl ([.ref h0, .int a1])).length) Slot.unset).toArray = ls at hl ⊢
  have hl : lv_has ls 2 [(0, .ref h0), (1, .int a1)] := hl
  refine lv_iload_n hx hb dX12_count_0 rfl (lv_at hl 1 rfl) ?_
  rcases zt_0_5 a1 with h_out | h_in | h_in | h_in | h_in | h_in | h_in
  · have h := h.1 h_out
    refine lv_tableOut (tgt := 70) hx hb dX12_count_1 h_out (by decide) ?_
    refine lv_bipush (v := (-2)) hx hb dX12_count_70 (by decide) ?_
    exact W.iret (v := (-2)) hx hb hr (fun t ht hW => ⟨_, rfl, h, ht⟩) (fun q h => by cases h) dX12_count_72
  · have h := h.2.1 h_in
    refine lv_tableIn (off := 39) (tgt := 40) hx hb dX12_count_1 (by rw [h_in]; decide) (by rw [h_in]; decide) (by rw [h_in]; decide) (by decide) ?_
    refine lv_aload_n hx hb dX12_count_40 rfl (lv_at hl 0 rfl) ?_
    refine va_get (D := D) (ci := 12) (v := .int (S 0 0)) (C := RX12) (T := TX12) (N := 52) hx hb hts (fun _ h => List.mem_cons_of_mem _ (List.mem_append_right _ h)) hown hK hP 0 rfl rfl 0 (by decide) (hts (.fieldLink RX12 140 "TemplateForgeModel" "methods" "I") (List.mem_of_getElem? (i := 1) rfl)) (fun _ h9 => h9) rfl dX12_count_41 ?_
    exact W.iret (v := S 0 0) hx hb hr (fun t ht hW => ⟨_, rfl, h, ht⟩) (fun q h => by cases h) dX12_count_44
  · have h := h.2.2.1 h_in
    refine lv_tableIn (off := 44) (tgt := 45) hx hb dX12_count_1 (by rw [h_in]; decide) (by rw [h_in]; decide) (by rw [h_in]; decide) (by decide) ?_
    refine lv_aload_n hx hb dX12_count_45 rfl (lv_at hl 0 rfl) ?_
    refine va_get (D := D) (ci := 12) (v := .int (S 48 0)) (C := RX12) (T := TX12) (N := 52) hx hb hts (fun _ h => List.mem_cons_of_mem _ (List.mem_append_right _ h)) hown hK hP 0 rfl rfl 48 (by decide) (hts (.fieldLink RX12 285 "TemplateForgeModel" "runs" "I") (List.mem_of_getElem? (i := 2) rfl)) (fun _ h9 => h9) rfl dX12_count_46 ?_
    exact W.iret (v := S 48 0) hx hb hr (fun t ht hW => ⟨_, rfl, h, ht⟩) (fun q h => by cases h) dX12_count_49
  · have h := h.2.2.2.1 h_in
    refine lv_tableIn (off := 49) (tgt := 50) hx hb dX12_count_1 (by rw [h_in]; decide) (by rw [h_in]; decide) (by rw [h_in]; decide) (by decide) ?_
    refine lv_aload_n hx hb dX12_count_50 rfl (lv_at hl 0 rfl) ?_
    refine va_get (D := D) (ci := 12) (v := .int (S 44 0)) (C := RX12) (T := TX12) (N := 52) hx hb hts (fun _ h => List.mem_cons_of_mem _ (List.mem_append_right _ h)) hown hK hP 0 rfl rfl 44 (by decide) (hts (.fieldLink RX12 230 "TemplateForgeModel" "steps" "I") (List.mem_of_getElem? (i := 3) rfl)) (fun _ h9 => h9) rfl dX12_count_51 ?_
    exact W.iret (v := S 44 0) hx hb hr (fun t ht hW => ⟨_, rfl, h, ht⟩) (fun q h => by cases h) dX12_count_54
  · have h := h.2.2.2.2.1 h_in
    refine lv_tableIn (off := 54) (tgt := 55) hx hb dX12_count_1 (by rw [h_in]; decide) (by rw [h_in]; decide) (by rw [h_in]; decide) (by decide) ?_
    refine lv_aload_n hx hb dX12_count_55 rfl (lv_at hl 0 rfl) ?_
    refine va_get (D := D) (ci := 12) (v := .int (S 45 0)) (C := RX12) (T := TX12) (N := 52) hx hb hts (fun _ h => List.mem_cons_of_mem _ (List.mem_append_right _ h)) hown hK hP 0 rfl rfl 45 (by decide) (hts (.fieldLink RX12 246 "TemplateForgeModel" "calls" "I") (List.mem_of_getElem? (i := 4) rfl)) (fun _ h9 => h9) rfl dX12_count_56 ?_
    exact W.iret (v := S 45 0) hx hb hr (fun t ht hW => ⟨_, rfl, h, ht⟩) (fun q h => by cases h) dX12_count_59
  · have h := h.2.2.2.2.2.1 h_in
    refine lv_tableIn (off := 59) (tgt := 60) hx hb dX12_count_1 (by rw [h_in]; decide) (by rw [h_in]; decide) (by rw [h_in]; decide) (by decide) ?_
    refine lv_aload_n hx hb dX12_count_60 rfl (lv_at hl 0 rfl) ?_
    refine va_get (D := D) (ci := 12) (v := .int (S 46 0)) (C := RX12) (T := TX12) (N := 52) hx hb hts (fun _ h => List.mem_cons_of_mem _ (List.mem_append_right _ h)) hown hK hP 0 rfl rfl 46 (by decide) (hts (.fieldLink RX12 252 "TemplateForgeModel" "callsByCode" "I") (List.mem_of_getElem? (i := 5) rfl)) (fun _ h9 => h9) rfl dX12_count_61 ?_
    exact W.iret (v := S 46 0) hx hb hr (fun t ht hW => ⟨_, rfl, h, ht⟩) (fun q h => by cases h) dX12_count_64
  · have h := h.2.2.2.2.2.2 h_in
    refine lv_tableIn (off := 64) (tgt := 65) hx hb dX12_count_1 (by rw [h_in]; decide) (by rw [h_in]; decide) (by rw [h_in]; decide) (by decide) ?_
    refine lv_aload_n hx hb dX12_count_65 rfl (lv_at hl 0 rfl) ?_
    refine va_get (D := D) (ci := 12) (v := .int (S 47 0)) (C := RX12) (T := TX12) (N := 52) hx hb hts (fun _ h => List.mem_cons_of_mem _ (List.mem_append_right _ h)) hown hK hP 0 rfl rfl 47 (by decide) (hts (.fieldLink RX12 275 "TemplateForgeModel" "failed" "I") (List.mem_of_getElem? (i := 6) rfl)) (fun _ h9 => h9) rfl dX12_count_66 ?_
    exact W.iret (v := S 47 0) hx hb hr (fun t ht hW => ⟨_, rfl, h, ht⟩) (fun q h => by cases h) dX12_count_69
def wp_X12_in (a0 : Int64) (a2 : Int64) (a4 : Int64) (Post : Int32 → Prop) : Prop :=
  ((((lg_cmp a0 a2) : Int32) < 0) → (Post 0)) ∧ ((¬ (((lg_cmp a0 a2) : Int32) < 0)) → (((0 < (lg_cmp a0 a4)) → (Post 0)) ∧ ((¬ (0 < (lg_cmp a0 a4))) → (Post 1))))
def zw_zd_X12_in : List Cond := .code yX12_in cX12_in 6 (some .boolean) :: ((([] : List Cond)))
set_option maxHeartbeats 16000000 in
set_option maxRecDepth 100000 in
theorem zd_X12_in (l : Launch) (D : va_G) (cI cZ cP cF : Nat) (a0 : Int64) (a2 : Int64) (a4 : Int64) (Post : Int32 → Prop) (h : wp_X12_in a0 a2 a4 Post) : Met l yX12_in zw_zd_X12_in ({ frames := 0, cells := 0, slots := 0, locals := 0 }) (va_Pc [.long a0, .long a2, .long a4] (fun U => va_P D vwCl [] U.heap ∧ zE D cI cZ cP cF U)) (vp_Si Post) 0 0 (fun _ => False) := by
  unfold wp_X12_in at h
  refine Met.ofW (cc := cX12_in) (maxL := 6) (ret := (some .boolean)) (by decide) rfl ?_
  intro p e s m args below meth c s₁ B hml hv
  obtain ⟨rfl, hP, hE⟩ := hv
  have hx := B.exec
  have hb := B.bytes
  have hr := B.returns
  have hts := atoms_spec (ws := zw_zd_X12_in) B.pre
  have hown : s.vm.findClass RX12 = some m.cls := findClass_of_methodNamed B.named
  have hlocks := B.notSynchronized
  have hK := hE.k
  have hl := lv_entry ([.long a0, .long a2, .long a4]) (n := 6) (Nat.le_of_ble_eq_true rfl)
  rw [lg_entry_eq]
  generalize (lg_sl ([.long a0, .long a2, .long a4]) ++ List.replicate (6 - (lg_sl ([.long a0, .long a2, .long a4])).length) Slot.unset).toArray = ls at hl ⊢
  have hl : lv_has ls 6 [(0, .long a0), (2, .long a2), (4, .long a4)] := hl
  refine lv_lload_n hx hb dX12_in_0 rfl (lv_at hl 0 rfl) ?_
  refine lv_lload_n hx hb dX12_in_1 rfl (lv_at hl 1 rfl) ?_
  refine W.lcmp hx hb dX12_in_2 ?_
  refine lv_if_lt (tgt := 17) hx hb dX12_in_3 (by decide) (fun c_1 => ?_) (fun c_1 => ?_)
  · have h := h.1 c_1
    refine lv_iconst (v := 0) hx hb dX12_in_17 (by decide) ?_
    exact W.zret (v := 0) (ty := .boolean) hx hb hr (by decide) (fun t ht hW => ⟨_, rfl, h, ht⟩) (fun q h => by cases h) dX12_in_18
  · have h := h.2 c_1
    refine lv_lload_n hx hb dX12_in_6 rfl (lv_at hl 0 rfl) ?_
    refine lv_lload hx hb dX12_in_7 (lv_at hl 2 rfl) ?_
    refine W.lcmp hx hb dX12_in_9 ?_
    refine lv_if_gt (tgt := 17) hx hb dX12_in_10 (by decide) (fun c_2 => ?_) (fun c_2 => ?_)
    · have h := h.1 c_2
      refine lv_iconst (v := 0) hx hb dX12_in_17 (by decide) ?_
      exact W.zret (v := 0) (ty := .boolean) hx hb hr (by decide) (fun t ht hW => ⟨_, rfl, h, ht⟩) (fun q h => by cases h) dX12_in_18
    · have h := h.2 c_2
      refine lv_iconst (v := 1) hx hb dX12_in_13 (by decide) ?_
      refine lv_goto (tgt := 18) hx hb dX12_in_14 (by decide) ?_
      exact W.zret (v := 1) (ty := .boolean) hx hb hr (by decide) (fun t ht hW => ⟨_, rfl, h, ht⟩) (fun q h => by cases h) dX12_in_18
def wp_X12_isMethod (S : MST) (a1 : Int32) (Post : Int32 → Prop) : Prop :=
  wp_X12_in ((a1 : Int32).toInt64) 0 (((S 0 0) - 1 : Int32).toInt64) (fun r1 => (r1 = 0 ∨ r1 = 1) ∧ Post r1)
def zw_zd_X12_isMethod_w0 : List Cond := [.fieldLink RX12 140 "TemplateForgeModel" "methods" "I", .code yX12_in cX12_in 6 (some .boolean), .methodLink RX12 134 yX12_in, .static yX12_in, .initialized RX12]
def zw_zd_X12_isMethod : List Cond := .code yX12_isMethod cX12_isMethod 2 (some .boolean) :: ((zw_zd_X12_isMethod_w0) ++ wsX120)
set_option maxRecDepth 100000 in
theorem zg_zd_X12_isMethod_zd_X12_in_134_a : GoodIn zw_zd_X12_isMethod [.methodLink RX12 134 yX12_in, .static yX12_in, .initialized RX12] := goodIn_r _ [3, 4, 5] rfl (by decide +kernel)
set_option maxRecDepth 100000 in
theorem zg_zd_X12_isMethod_zd_X12_in_134_c : GoodIn zw_zd_X12_isMethod [.code yX12_in cX12_in 6 (some .boolean)] := goodIn_r _ [2] rfl (by decide +kernel)
theorem zg_zd_X12_isMethod_zd_X12_in_134 : GoodIn zw_zd_X12_isMethod (va_wsS RX12 134 yX12_in zw_zd_X12_in) := goodIn_app zg_zd_X12_isMethod_zd_X12_in_134_a (show GoodIn zw_zd_X12_isMethod (.code yX12_in cX12_in 6 (some .boolean) :: (([] : List Cond))) from zg_zd_X12_isMethod_zd_X12_in_134_c)
set_option maxHeartbeats 16000000 in
set_option maxRecDepth 100000 in
theorem zd_X12_isMethod (l : Launch) (D : va_G) (cI cZ cP cF : Nat) (h0 : Nat) (q : Nat → Nat) (S : MST) (a1 : Int32) (Post : Int32 → Prop) (h : wp_X12_isMethod S a1 Post) : Met l yX12_isMethod zw_zd_X12_isMethod ({ frames := 1, cells := 0, slots := 0, locals := 25 }) (va_Pc [.ref h0, .int a1] (fun U => va_P D vwCl (mW cI cZ h0 q S) U.heap ∧ zE D cI cZ cP cF U)) (vp_Si Post) 0 0 (fun _ => False) := by
  unfold wp_X12_isMethod at h
  refine Met.ofW (cc := cX12_isMethod) (maxL := 2) (ret := (some .boolean)) (by decide) rfl ?_
  intro p e s m args below meth c s₁ B hml hv
  obtain ⟨rfl, hP, hE⟩ := hv
  have hx := B.exec
  have hb := B.bytes
  have hr := B.returns
  have hts := atoms_spec (ws := zw_zd_X12_isMethod) B.pre
  have hown : s.vm.findClass RX12 = some m.cls := findClass_of_methodNamed B.named
  have hlocks := B.notSynchronized
  have hK := hE.k
  have hl := lv_entry ([.ref h0, .int a1]) (n := 2) (Nat.le_of_ble_eq_true rfl)
  rw [lg_entry_eq]
  generalize (lg_sl ([.ref h0, .int a1]) ++ List.replicate (2 - (lg_sl ([.ref h0, .int a1])).length) Slot.unset).toArray = ls at hl ⊢
  have hl : lv_has ls 2 [(0, .ref h0), (1, .int a1)] := hl
  refine lv_iload_n hx hb dX12_isMethod_0 rfl (lv_at hl 1 rfl) ?_
  refine lv_i2l (v := (a1 : Int32).toInt64) hx hb dX12_isMethod_1 rfl ?_
  refine lv_lconst (v := 0) hx hb dX12_isMethod_2 (by decide) ?_
  refine lv_aload_n hx hb dX12_isMethod_3 rfl (lv_at hl 0 rfl) ?_
  refine va_get (D := D) (ci := 12) (v := .int (S 0 0)) (C := RX12) (T := TX12) (N := 52) hx hb hts (fun _ h => List.mem_cons_of_mem _ (List.mem_append_right _ h)) hown hK hP 0 rfl rfl 0 (by decide) (hts (.fieldLink RX12 140 "TemplateForgeModel" "methods" "I") (List.mem_of_getElem? (i := 1) rfl)) (fun _ h9 => h9) rfl dX12_isMethod_4 ?_
  refine lv_iconst (v := 1) hx hb dX12_isMethod_7 (by decide) ?_
  refine lv_isub hx hb dX12_isMethod_8 ?_
  refine lv_i2l (v := ((S 0 0) - 1 : Int32).toInt64) hx hb dX12_isMethod_9 rfl ?_
  have hP0 : va_P D vwCl [] s.heap := fun k q h => by simp at h
  refine vp_callSi (va_Run.run (va_runS (As := [.long ((a1 : Int32).toInt64), .long 0, .long (((S 0 0) - 1 : Int32).toInt64)]) (rest := []) ⟨hx, hb, hml, hown, hts⟩ (zd_X12_in l D cI cZ cP cF ((a1 : Int32).toInt64) 0 (((S 0 0) - 1 : Int32).toInt64)  _ h) (va_cwS 3 hts zg_zd_X12_isMethod_zd_X12_in_134 rfl rfl rfl (by decide +kernel) ⟨Nat.le_of_ble_eq_true rfl, Nat.le_of_ble_eq_true rfl⟩) ⟨zBR, fun U hU hW => ⟨rfl, by rw [hU]; exact hP0, hE.warm hW⟩⟩ rfl rfl hl.1 rfl (lv_room (Nat.le_of_ble_eq_true rfl)) dX12_isMethod_10 ⟨Nat.le_of_ble_eq_true rfl, Nat.le_of_ble_eq_true rfl⟩)) (fun r1 h => ?_)
  have hz : narrow .boolean (.int r1) = .int r1 := by rcases h.1 with q | q <;> rw [q] <;> rfl
  have h := h.2
  exact W.zret (v := r1) (ty := .boolean) hx hb hr (hz) (fun t ht hW => ⟨_, rfl, h, ht⟩) (fun q h => by cases h) dX12_isMethod_13
def wp_X12_depth (S : MST) (a1 : Int32) (a2 : Int32) (Post : Int32 → Prop) : Prop :=
  wp_X12_isMethod S a1 (fun r1 => (((r1 : Int32) = 0) → (Post (-2))) ∧ ((¬ ((r1 : Int32) = 0)) → (vp_in a1 8 ∧ (wp_X12_in ((a2 : Int32).toInt64) 0 (((S 3 (a1 : Int32).toNatClampNeg) - 1 : Int32).toInt64) (fun r4 => ((¬ ((r4 : Int32) = 0)) → (vp_in a1 8 ∧ (((((S 6 (a1 : Int32).toNatClampNeg) : Int32) = 0) → (Post (-1))) ∧ ((¬ (((S 6 (a1 : Int32).toNatClampNeg) : Int32) = 0)) → (vp_in ((60 * a1) + a2) 480 ∧ (Post (S 7 ((60 * a1) + a2 : Int32).toNatClampNeg))))))) ∧ (((r4 : Int32) = 0) → (Post (-2))))))))
def zw_zd_X12_depth_w0 : List Cond := [.code yX12_isMethod cX12_isMethod 2 (some .boolean), .fieldLink RX12 140 "TemplateForgeModel" "methods" "I", .code yX12_in cX12_in 6 (some .boolean), .methodLink RX12 134 yX12_in, .static yX12_in, .initialized RX12, .methodLink RX12 144 yX12_isMethod, .instanceMethod yX12_isMethod, .selects RX12 yX12_isMethod yX12_isMethod, .fieldLink RX12 16 "TemplateForgeModel" "many" "[I", .fieldLink RX12 25 "TemplateForgeModel" "isLooked" "[Z", .fieldLink RX12 29 "TemplateForgeModel" "depths" "[I"]
def zw_zd_X12_depth : List Cond := .code yX12_depth cX12_depth 3 (some .int) :: ((zw_zd_X12_depth_w0) ++ wsX120)
set_option maxRecDepth 100000 in
theorem zg_zd_X12_depth_zd_X12_isMethod_144_a : GoodIn zw_zd_X12_depth [.methodLink RX12 144 yX12_isMethod, .instanceMethod yX12_isMethod, .selects RX12 yX12_isMethod yX12_isMethod, .initialized RX12] := goodIn_r _ [7, 8, 9, 6] rfl (by decide +kernel)
set_option maxRecDepth 100000 in
theorem zg_zd_X12_depth_zd_X12_isMethod_144_c : GoodIn zw_zd_X12_depth [.code yX12_isMethod cX12_isMethod 2 (some .boolean)] := goodIn_r _ [1] rfl (by decide +kernel)
set_option maxRecDepth 100000 in
theorem zg_zd_X12_depth_zd_X12_isMethod_144_0 : GoodIn zw_zd_X12_depth zw_zd_X12_isMethod_w0 := goodIn_r _ [2, 3, 4, 5, 6] rfl (by decide +kernel)
theorem zg_zd_X12_depth_zd_X12_isMethod_144 : GoodIn zw_zd_X12_depth (wsV RX12 144 RX12 yX12_isMethod zw_zd_X12_isMethod) := goodIn_app zg_zd_X12_depth_zd_X12_isMethod_144_a (goodIn_ca (a := (zw_zd_X12_isMethod_w0)) (show GoodIn zw_zd_X12_depth (.code yX12_isMethod cX12_isMethod 2 (some .boolean) :: (zw_zd_X12_isMethod_w0)) from goodIn_app zg_zd_X12_depth_zd_X12_isMethod_144_c (zg_zd_X12_depth_zd_X12_isMethod_144_0)) (fun w h => ⟨(fun _ h => List.mem_cons_of_mem _ (List.mem_append_right _ h)) w h, good_of_word (List.all_eq_true.mp zgw_X12 w h)⟩))
set_option maxRecDepth 100000 in
theorem zg_zd_X12_depth_zd_X12_in_134_a : GoodIn zw_zd_X12_depth [.methodLink RX12 134 yX12_in, .static yX12_in, .initialized RX12] := goodIn_r _ [4, 5, 6] rfl (by decide +kernel)
set_option maxRecDepth 100000 in
theorem zg_zd_X12_depth_zd_X12_in_134_c : GoodIn zw_zd_X12_depth [.code yX12_in cX12_in 6 (some .boolean)] := goodIn_r _ [3] rfl (by decide +kernel)
theorem zg_zd_X12_depth_zd_X12_in_134 : GoodIn zw_zd_X12_depth (va_wsS RX12 134 yX12_in zw_zd_X12_in) := goodIn_app zg_zd_X12_depth_zd_X12_in_134_a (show GoodIn zw_zd_X12_depth (.code yX12_in cX12_in 6 (some .boolean) :: (([] : List Cond))) from zg_zd_X12_depth_zd_X12_in_134_c)
set_option maxHeartbeats 16000000 in
set_option maxRecDepth 100000 in
theorem zd_X12_depth (l : Launch) (D : va_G) (cI cZ cP cF : Nat) (h0 : Nat) (q : Nat → Nat) (S : MST) (a1 : Int32) (a2 : Int32) (Post : Int32 → Prop) (h : wp_X12_depth S a1 a2 Post) : Met l yX12_depth zw_zd_X12_depth ({ frames := 2, cells := 0, slots := 0, locals := 46 }) (va_Pc [.ref h0, .int a1, .int a2] (fun U => va_P D vwCl (mW cI cZ h0 q S) U.heap ∧ zE D cI cZ cP cF U)) (vp_Si Post) 0 0 (fun _ => False) := by
  unfold wp_X12_depth at h
  refine Met.ofW (cc := cX12_depth) (maxL := 3) (ret := (some .int)) (by decide) rfl ?_
  intro p e s m args below meth c s₁ B hml hv
  obtain ⟨rfl, hP, hE⟩ := hv
  have hx := B.exec
  have hb := B.bytes
  have hr := B.returns
  have hts := atoms_spec (ws := zw_zd_X12_depth) B.pre
  have hown : s.vm.findClass RX12 = some m.cls := findClass_of_methodNamed B.named
  have hlocks := B.notSynchronized
  have hK := hE.k
  have hl := lv_entry ([.ref h0, .int a1, .int a2]) (n := 3) (Nat.le_of_ble_eq_true rfl)
  rw [lg_entry_eq]
  generalize (lg_sl ([.ref h0, .int a1, .int a2]) ++ List.replicate (3 - (lg_sl ([.ref h0, .int a1, .int a2])).length) Slot.unset).toArray = ls at hl ⊢
  have hl : lv_has ls 3 [(0, .ref h0), (1, .int a1), (2, .int a2)] := hl
  refine lv_aload_n hx hb dX12_depth_0 rfl (lv_at hl 0 rfl) ?_
  refine lv_iload_n hx hb dX12_depth_1 rfl (lv_at hl 1 rfl) ?_
  refine vp_callSi (va_Run.run (va_runV (As := [.int a1]) (rest := []) ⟨hx, hb, hml, hown, hts⟩ (zd_X12_isMethod l D cI cZ cP cF h0 q S a1  _ h) (cwV 1 hts zg_zd_X12_depth_zd_X12_isMethod_144 rfl rfl rfl (by decide +kernel) ⟨Nat.le_of_ble_eq_true rfl, Nat.le_of_ble_eq_true rfl⟩) ⟨zBR, va_recv hK hP (ci := 12) (q0 := 0) rfl rfl, fun U hU hW => ⟨rfl, by rw [hU]; exact hP, hE.warm hW⟩⟩ rfl rfl hl.1 rfl (lv_room (Nat.le_of_ble_eq_true rfl)) dX12_depth_2 ⟨Nat.le_of_ble_eq_true rfl, Nat.le_of_ble_eq_true rfl⟩)) (fun r1 h => ?_)
  refine lv_if_eq (tgt := 26) hx hb dX12_depth_5 (by decide) (fun c_2 => ?_) (fun c_2 => ?_)
  · have h := h.1 c_2
    refine lv_bipush (v := (-2)) hx hb dX12_depth_26 (by decide) ?_
    exact W.iret (v := (-2)) hx hb hr (fun t ht hW => ⟨_, rfl, h, ht⟩) (fun q h => by cases h) dX12_depth_28
  · have h := h.2 c_2
    refine lv_iload_n hx hb dX12_depth_8 rfl (lv_at hl 2 rfl) ?_
    refine lv_i2l (v := (a2 : Int32).toInt64) hx hb dX12_depth_9 rfl ?_
    refine lv_lconst (v := 0) hx hb dX12_depth_10 (by decide) ?_
    refine lv_aload_n hx hb dX12_depth_11 rfl (lv_at hl 0 rfl) ?_
    refine va_get (D := D) (ci := 12) (v := .ref (q 3)) (C := RX12) (T := TX12) (N := 52) hx hb hts (fun _ h => List.mem_cons_of_mem _ (List.mem_append_right _ h)) hown hK hP 0 rfl rfl 3 (by decide) (hts (.fieldLink RX12 16 "TemplateForgeModel" "many" "[I") (List.mem_of_getElem? (i := 10) rfl)) (fun _ h9 => h9) rfl dX12_depth_12 ?_
    refine lv_iload_n hx hb dX12_depth_15 rfl (lv_at hl 1 rfl) ?_
    have hin_3 := h.1
    have h := h.2
    refine va_iald hx hb hK hP 3 0 rfl rfl hin_3 dX12_depth_16 ?_
    refine lv_iconst (v := 1) hx hb dX12_depth_17 (by decide) ?_
    refine lv_isub hx hb dX12_depth_18 ?_
    refine lv_i2l (v := ((S 3 (a1 : Int32).toNatClampNeg) - 1 : Int32).toInt64) hx hb dX12_depth_19 rfl ?_
    have hP0 : va_P D vwCl [] s.heap := fun k q h => by simp at h
    refine vp_callSi (va_Run.run (va_runS (As := [.long ((a2 : Int32).toInt64), .long 0, .long (((S 3 (a1 : Int32).toNatClampNeg) - 1 : Int32).toInt64)]) (rest := []) ⟨hx, hb, hml, hown, hts⟩ (zd_X12_in l D cI cZ cP cF ((a2 : Int32).toInt64) 0 (((S 3 (a1 : Int32).toNatClampNeg) - 1 : Int32).toInt64)  _ h) (va_cwS 3 hts zg_zd_X12_depth_zd_X12_in_134 rfl rfl rfl (by decide +kernel) ⟨Nat.le_of_ble_eq_true rfl, Nat.le_of_ble_eq_true rfl⟩) ⟨zBR, fun U hU hW => ⟨rfl, by rw [hU]; exact hP0, hE.warm hW⟩⟩ rfl rfl hl.1 rfl (lv_room (Nat.le_of_ble_eq_true rfl)) dX12_depth_20 ⟨Nat.le_of_ble_eq_true rfl, Nat.le_of_ble_eq_true rfl⟩)) (fun r4 h => ?_)
    refine lv_if_ne (tgt := 29) hx hb dX12_depth_23 (by decide) (fun c_5 => ?_) (fun c_5 => ?_)
    · have h := h.1 c_5
      refine lv_aload_n hx hb dX12_depth_29 rfl (lv_at hl 0 rfl) ?_
      refine va_get (D := D) (ci := 12) (v := .ref (q 6)) (C := RX12) (T := TX12) (N := 52) hx hb hts (fun _ h => List.mem_cons_of_mem _ (List.mem_append_right _ h)) hown hK hP 0 rfl rfl 6 (by decide) (hts (.fieldLink RX12 25 "TemplateForgeModel" "isLooked" "[Z") (List.mem_of_getElem? (i := 11) rfl)) (fun _ h9 => h9) rfl dX12_depth_30 ?_
      refine lv_iload_n hx hb dX12_depth_33 rfl (lv_at hl 1 rfl) ?_
      have hin_6 := h.1
      have h := h.2
      refine va_zald hx hb hK hP 6 1 rfl rfl hin_6 dX12_depth_34 ?_
      refine lv_if_eq (tgt := 52) hx hb dX12_depth_35 (by decide) (fun c_7 => ?_) (fun c_7 => ?_)
      · have h := h.1 c_7
        refine lv_iconst (v := (-1)) hx hb dX12_depth_52 (by decide) ?_
        exact W.iret (v := (-1)) hx hb hr (fun t ht hW => ⟨_, rfl, h, ht⟩) (fun q h => by cases h) dX12_depth_53
      · have h := h.2 c_7
        refine lv_aload_n hx hb dX12_depth_38 rfl (lv_at hl 0 rfl) ?_
        refine va_get (D := D) (ci := 12) (v := .ref (q 7)) (C := RX12) (T := TX12) (N := 52) hx hb hts (fun _ h => List.mem_cons_of_mem _ (List.mem_append_right _ h)) hown hK hP 0 rfl rfl 7 (by decide) (hts (.fieldLink RX12 29 "TemplateForgeModel" "depths" "[I") (List.mem_of_getElem? (i := 12) rfl)) (fun _ h9 => h9) rfl dX12_depth_39 ?_
        refine lv_bipush (v := 60) hx hb dX12_depth_42 (by decide) ?_
        refine lv_iload_n hx hb dX12_depth_44 rfl (lv_at hl 1 rfl) ?_
        refine lv_imul hx hb dX12_depth_45 ?_
        refine lv_iload_n hx hb dX12_depth_46 rfl (lv_at hl 2 rfl) ?_
        refine lv_iadd hx hb dX12_depth_47 ?_
        have hin_8 := h.1
        have h := h.2
        refine va_iald hx hb hK hP 7 0 rfl rfl hin_8 dX12_depth_48 ?_
        refine lv_goto (tgt := 53) hx hb dX12_depth_49 (by decide) ?_
        exact W.iret (v := S 7 ((60 * a1) + a2 : Int32).toNatClampNeg) hx hb hr (fun t ht hW => ⟨_, rfl, h, ht⟩) (fun q h => by cases h) dX12_depth_53
    · have h := h.2 c_5
      refine lv_bipush (v := (-2)) hx hb dX12_depth_26 (by decide) ?_
      exact W.iret (v := (-2)) hx hb hr (fun t ht hW => ⟨_, rfl, h, ht⟩) (fun q h => by cases h) dX12_depth_28
def wp_X12_partsOf (S : MST) (a1 : Int32) (Post : Int32 → Prop) : Prop :=
  vp_in a1 8 ∧ (((¬ (((S 17 (a1 : Int32).toNatClampNeg) : Int32) = 0)) → (wp_X12_codeNow S a1 (fun r3 => vp_in r3 96 ∧ (Post (S 23 (r3 : Int32).toNatClampNeg))))) ∧ ((((S 17 (a1 : Int32).toNatClampNeg) : Int32) = 0) → (Post 0)))
def zw_zd_X12_partsOf_w0 : List Cond := [.fieldLink RX12 56 "TemplateForgeModel" "madeCodes" "[I", .fieldLink RX12 74 "TemplateForgeModel" "partMany" "[I", .code yX12_codeNow cX12_codeNow 2 (some .int), .methodLink RX12 217 yX12_codeNow, .instanceMethod yX12_codeNow, .selects RX12 yX12_codeNow yX12_codeNow, .initialized RX12]
def zw_zd_X12_partsOf : List Cond := .code yX12_partsOf cX12_partsOf 2 (some .int) :: ((zw_zd_X12_partsOf_w0) ++ wsX120)
set_option maxRecDepth 100000 in
theorem zg_zd_X12_partsOf_zd_X12_codeNow_217_a : GoodIn zw_zd_X12_partsOf [.methodLink RX12 217 yX12_codeNow, .instanceMethod yX12_codeNow, .selects RX12 yX12_codeNow yX12_codeNow, .initialized RX12] := goodIn_r _ [4, 5, 6, 7] rfl (by decide +kernel)
set_option maxRecDepth 100000 in
theorem zg_zd_X12_partsOf_zd_X12_codeNow_217_c : GoodIn zw_zd_X12_partsOf [.code yX12_codeNow cX12_codeNow 2 (some .int)] := goodIn_r _ [3] rfl (by decide +kernel)
set_option maxRecDepth 100000 in
theorem zg_zd_X12_partsOf_zd_X12_codeNow_217_0 : GoodIn zw_zd_X12_partsOf zw_zd_X12_codeNow_w0 := goodIn_r _ [1] rfl (by decide +kernel)
theorem zg_zd_X12_partsOf_zd_X12_codeNow_217 : GoodIn zw_zd_X12_partsOf (wsV RX12 217 RX12 yX12_codeNow zw_zd_X12_codeNow) := goodIn_app zg_zd_X12_partsOf_zd_X12_codeNow_217_a (goodIn_ca (a := (zw_zd_X12_codeNow_w0)) (show GoodIn zw_zd_X12_partsOf (.code yX12_codeNow cX12_codeNow 2 (some .int) :: (zw_zd_X12_codeNow_w0)) from goodIn_app zg_zd_X12_partsOf_zd_X12_codeNow_217_c (zg_zd_X12_partsOf_zd_X12_codeNow_217_0)) (fun w h => ⟨(fun _ h => List.mem_cons_of_mem _ (List.mem_append_right _ h)) w h, good_of_word (List.all_eq_true.mp zgw_X12 w h)⟩))
set_option maxHeartbeats 16000000 in
set_option maxRecDepth 100000 in
theorem zd_X12_partsOf (l : Launch) (D : va_G) (cI cZ cP cF : Nat) (h0 : Nat) (q : Nat → Nat) (S : MST) (a1 : Int32) (Post : Int32 → Prop) (h : wp_X12_partsOf S a1 Post) : Met l yX12_partsOf zw_zd_X12_partsOf ({ frames := 1, cells := 0, slots := 0, locals := 21 }) (va_Pc [.ref h0, .int a1] (fun U => va_P D vwCl (mW cI cZ h0 q S) U.heap ∧ zE D cI cZ cP cF U)) (vp_Si Post) 0 0 (fun _ => False) := by
  unfold wp_X12_partsOf at h
  refine Met.ofW (cc := cX12_partsOf) (maxL := 2) (ret := (some .int)) (by decide) rfl ?_
  intro p e s m args below meth c s₁ B hml hv
  obtain ⟨rfl, hP, hE⟩ := hv
  have hx := B.exec
  have hb := B.bytes
  have hr := B.returns
  have hts := atoms_spec (ws := zw_zd_X12_partsOf) B.pre
  have hown : s.vm.findClass RX12 = some m.cls := findClass_of_methodNamed B.named
  have hlocks := B.notSynchronized
  have hK := hE.k
  have hl := lv_entry ([.ref h0, .int a1]) (n := 2) (Nat.le_of_ble_eq_true rfl)
  rw [lg_entry_eq]
  generalize (lg_sl ([.ref h0, .int a1]) ++ List.replicate (2 - (lg_sl ([.ref h0, .int a1])).length) Slot.unset).toArray = ls at hl ⊢
  have hl : lv_has ls 2 [(0, .ref h0), (1, .int a1)] := hl
  refine lv_aload_n hx hb dX12_partsOf_0 rfl (lv_at hl 0 rfl) ?_
  refine va_get (D := D) (ci := 12) (v := .ref (q 17)) (C := RX12) (T := TX12) (N := 52) hx hb hts (fun _ h => List.mem_cons_of_mem _ (List.mem_append_right _ h)) hown hK hP 0 rfl rfl 17 (by decide) (hts (.fieldLink RX12 56 "TemplateForgeModel" "madeCodes" "[I") (List.mem_of_getElem? (i := 1) rfl)) (fun _ h9 => h9) rfl dX12_partsOf_1 ?_
  refine lv_iload_n hx hb dX12_partsOf_4 rfl (lv_at hl 1 rfl) ?_
  have hin_1 := h.1
  have h := h.2
  refine va_iald hx hb hK hP 16 0 rfl rfl hin_1 dX12_partsOf_5 ?_
  refine lv_if_ne (tgt := 13) hx hb dX12_partsOf_6 (by decide) (fun c_2 => ?_) (fun c_2 => ?_)
  · have h := h.1 c_2
    refine lv_aload_n hx hb dX12_partsOf_13 rfl (lv_at hl 0 rfl) ?_
    refine va_get (D := D) (ci := 12) (v := .ref (q 23)) (C := RX12) (T := TX12) (N := 52) hx hb hts (fun _ h => List.mem_cons_of_mem _ (List.mem_append_right _ h)) hown hK hP 0 rfl rfl 23 (by decide) (hts (.fieldLink RX12 74 "TemplateForgeModel" "partMany" "[I") (List.mem_of_getElem? (i := 2) rfl)) (fun _ h9 => h9) rfl dX12_partsOf_14 ?_
    refine lv_aload_n hx hb dX12_partsOf_17 rfl (lv_at hl 0 rfl) ?_
    refine lv_iload_n hx hb dX12_partsOf_18 rfl (lv_at hl 1 rfl) ?_
    refine vp_callSi (va_Run.run (va_runV (As := [.int a1]) (rest := [.ref (q 23)]) ⟨hx, hb, hml, hown, hts⟩ (zd_X12_codeNow l D cI cZ cP cF h0 q S a1  _ h) (cwV 1 hts zg_zd_X12_partsOf_zd_X12_codeNow_217 rfl rfl rfl (by decide +kernel) ⟨Nat.le_of_ble_eq_true rfl, Nat.le_of_ble_eq_true rfl⟩) ⟨zBR, va_recv hK hP (ci := 12) (q0 := 0) rfl rfl, fun U hU hW => ⟨rfl, by rw [hU]; exact hP, hE.warm hW⟩⟩ rfl rfl hl.1 rfl (lv_room (Nat.le_of_ble_eq_true rfl)) dX12_partsOf_19 ⟨Nat.le_of_ble_eq_true rfl, Nat.le_of_ble_eq_true rfl⟩)) (fun r3 h => ?_)
    have hin_4 := h.1
    have h := h.2
    refine va_iald hx hb hK hP 22 0 rfl rfl hin_4 dX12_partsOf_22 ?_
    exact W.iret (v := S 23 (r3 : Int32).toNatClampNeg) hx hb hr (fun t ht hW => ⟨_, rfl, h, ht⟩) (fun q h => by cases h) dX12_partsOf_23
  · have h := h.2 c_2
    refine lv_iconst (v := 0) hx hb dX12_partsOf_9 (by decide) ?_
    refine lv_goto (tgt := 23) hx hb dX12_partsOf_10 (by decide) ?_
    exact W.iret (v := 0) hx hb hr (fun t ht hW => ⟨_, rfl, h, ht⟩) (fun q h => by cases h) dX12_partsOf_23
def wp_X12_of (S : MST) (a1 : Int32) (a2 : Int32) (Post : Int32 → Prop) : Prop :=
  wp_X12_isMethod S a1 (fun r1 => ((¬ ((r1 : Int32) = 0)) → (((a2 : Int32).toInt < 0 ∨ 7 < (a2 : Int32).toInt → (Post (-2))) ∧ (a2 = 0 → (vp_in a1 8 ∧ (((((S 15 (a1 : Int32).toNatClampNeg) : Int32) = 0) → (Post 0)) ∧ ((¬ (((S 15 (a1 : Int32).toNatClampNeg) : Int32) = 0)) → (Post 1))))) ∧ (a2 = 1 → (vp_in a1 8 ∧ (Post (S 16 (a1 : Int32).toNatClampNeg)))) ∧ (a2 = 2 → (vp_in a1 8 ∧ (Post (S 17 (a1 : Int32).toNatClampNeg)))) ∧ (a2 = 3 → (vp_in a1 8 ∧ (Post (S 18 (a1 : Int32).toNatClampNeg)))) ∧ (a2 = 4 → (vp_in a1 8 ∧ (Post (S 19 (a1 : Int32).toNatClampNeg)))) ∧ (a2 = 5 → (wp_X12_partsOf S a1 (fun r9 => Post r9))) ∧ (a2 = 6 → (vp_in a1 8 ∧ (Post (S 3 (a1 : Int32).toNatClampNeg)))) ∧ (a2 = 7 → (vp_in a1 8 ∧ (((((S 6 (a1 : Int32).toNatClampNeg) : Int32) = 0) → (Post (-1))) ∧ ((¬ (((S 6 (a1 : Int32).toNatClampNeg) : Int32) = 0)) → (vp_in a1 8 ∧ (Post (S 8 (a1 : Int32).toNatClampNeg))))))))) ∧ (((r1 : Int32) = 0) → (Post (-2))))
def zw_zd_X12_of_w0 : List Cond := [.code yX12_isMethod cX12_isMethod 2 (some .boolean), .fieldLink RX12 140 "TemplateForgeModel" "methods" "I", .code yX12_in cX12_in 6 (some .boolean), .methodLink RX12 134 yX12_in, .static yX12_in, .initialized RX12, .methodLink RX12 144 yX12_isMethod, .instanceMethod yX12_isMethod, .selects RX12 yX12_isMethod yX12_isMethod, .fieldLink RX12 50 "TemplateForgeModel" "hasCode" "[Z", .fieldLink RX12 53 "TemplateForgeModel" "counted" "[I", .fieldLink RX12 56 "TemplateForgeModel" "madeCodes" "[I", .fieldLink RX12 59 "TemplateForgeModel" "guardsFailed" "[I", .fieldLink RX12 62 "TemplateForgeModel" "codeCalls" "[I", .code yX12_partsOf cX12_partsOf 2 (some .int), .fieldLink RX12 74 "TemplateForgeModel" "partMany" "[I"]
def zw_zd_X12_of_w1 : List Cond := [.code yX12_codeNow cX12_codeNow 2 (some .int), .methodLink RX12 217 yX12_codeNow, .instanceMethod yX12_codeNow, .selects RX12 yX12_codeNow yX12_codeNow, .methodLink RX12 294 yX12_partsOf, .instanceMethod yX12_partsOf, .selects RX12 yX12_partsOf yX12_partsOf, .fieldLink RX12 16 "TemplateForgeModel" "many" "[I", .fieldLink RX12 25 "TemplateForgeModel" "isLooked" "[Z", .fieldLink RX12 32 "TemplateForgeModel" "deepest" "[I"]
def zw_zd_X12_of : List Cond := .code yX12_of cX12_of 3 (some .int) :: ((zw_zd_X12_of_w0 ++ (zw_zd_X12_of_w1)) ++ wsX120)
set_option maxRecDepth 100000 in
theorem zg_zd_X12_of_zd_X12_isMethod_144_a : GoodIn zw_zd_X12_of [.methodLink RX12 144 yX12_isMethod, .instanceMethod yX12_isMethod, .selects RX12 yX12_isMethod yX12_isMethod, .initialized RX12] := goodIn_r _ [7, 8, 9, 6] rfl (by decide +kernel)
set_option maxRecDepth 100000 in
theorem zg_zd_X12_of_zd_X12_isMethod_144_c : GoodIn zw_zd_X12_of [.code yX12_isMethod cX12_isMethod 2 (some .boolean)] := goodIn_r _ [1] rfl (by decide +kernel)
set_option maxRecDepth 100000 in
theorem zg_zd_X12_of_zd_X12_isMethod_144_0 : GoodIn zw_zd_X12_of zw_zd_X12_isMethod_w0 := goodIn_r _ [2, 3, 4, 5, 6] rfl (by decide +kernel)
theorem zg_zd_X12_of_zd_X12_isMethod_144 : GoodIn zw_zd_X12_of (wsV RX12 144 RX12 yX12_isMethod zw_zd_X12_isMethod) := goodIn_app zg_zd_X12_of_zd_X12_isMethod_144_a (goodIn_ca (a := (zw_zd_X12_isMethod_w0)) (show GoodIn zw_zd_X12_of (.code yX12_isMethod cX12_isMethod 2 (some .boolean) :: (zw_zd_X12_isMethod_w0)) from goodIn_app zg_zd_X12_of_zd_X12_isMethod_144_c (zg_zd_X12_of_zd_X12_isMethod_144_0)) (fun w h => ⟨(fun _ h => List.mem_cons_of_mem _ (List.mem_append_right _ h)) w h, good_of_word (List.all_eq_true.mp zgw_X12 w h)⟩))
set_option maxRecDepth 100000 in
theorem zg_zd_X12_of_zd_X12_partsOf_294_a : GoodIn zw_zd_X12_of [.methodLink RX12 294 yX12_partsOf, .instanceMethod yX12_partsOf, .selects RX12 yX12_partsOf yX12_partsOf, .initialized RX12] := goodIn_r _ [21, 22, 23, 6] rfl (by decide +kernel)
set_option maxRecDepth 100000 in
theorem zg_zd_X12_of_zd_X12_partsOf_294_c : GoodIn zw_zd_X12_of [.code yX12_partsOf cX12_partsOf 2 (some .int)] := goodIn_r _ [15] rfl (by decide +kernel)
set_option maxRecDepth 100000 in
theorem zg_zd_X12_of_zd_X12_partsOf_294_0 : GoodIn zw_zd_X12_of zw_zd_X12_partsOf_w0 := goodIn_r _ [12, 16, 17, 18, 19, 20, 6] rfl (by decide +kernel)
theorem zg_zd_X12_of_zd_X12_partsOf_294 : GoodIn zw_zd_X12_of (wsV RX12 294 RX12 yX12_partsOf zw_zd_X12_partsOf) := goodIn_app zg_zd_X12_of_zd_X12_partsOf_294_a (goodIn_ca (a := (zw_zd_X12_partsOf_w0)) (show GoodIn zw_zd_X12_of (.code yX12_partsOf cX12_partsOf 2 (some .int) :: (zw_zd_X12_partsOf_w0)) from goodIn_app zg_zd_X12_of_zd_X12_partsOf_294_c (zg_zd_X12_of_zd_X12_partsOf_294_0)) (fun w h => ⟨(fun _ h => List.mem_cons_of_mem _ (List.mem_append_right _ h)) w h, good_of_word (List.all_eq_true.mp zgw_X12 w h)⟩))
set_option maxHeartbeats 16000000 in
set_option maxRecDepth 100000 in
theorem zd_X12_of (l : Launch) (D : va_G) (cI cZ cP cF : Nat) (h0 : Nat) (q : Nat → Nat) (S : MST) (a1 : Int32) (a2 : Int32) (Post : Int32 → Prop) (h : wp_X12_of S a1 a2 Post) : Met l yX12_of zw_zd_X12_of ({ frames := 2, cells := 0, slots := 0, locals := 46 }) (va_Pc [.ref h0, .int a1, .int a2] (fun U => va_P D vwCl (mW cI cZ h0 q S) U.heap ∧ zE D cI cZ cP cF U)) (vp_Si Post) 0 0 (fun _ => False) := by
  unfold wp_X12_of at h
  refine Met.ofW (cc := cX12_of) (maxL := 3) (ret := (some .int)) (by decide) rfl ?_
  intro p e s m args below meth c s₁ B hml hv
  obtain ⟨rfl, hP, hE⟩ := hv
  have hx := B.exec
  have hb := B.bytes
  have hr := B.returns
  have hts := atoms_spec (ws := zw_zd_X12_of) B.pre
  have hown : s.vm.findClass RX12 = some m.cls := findClass_of_methodNamed B.named
  have hlocks := B.notSynchronized
  have hK := hE.k
  have hl := lv_entry ([.ref h0, .int a1, .int a2]) (n := 3) (Nat.le_of_ble_eq_true rfl)
  rw [lg_entry_eq]
  generalize (lg_sl ([.ref h0, .int a1, .int a2]) ++ List.replicate (3 - (lg_sl ([.ref h0, .int a1, .int a2])).length) Slot.unset).toArray = ls at hl ⊢
  have hl : lv_has ls 3 [(0, .ref h0), (1, .int a1), (2, .int a2)] := hl
  refine lv_aload_n hx hb dX12_of_0 rfl (lv_at hl 0 rfl) ?_
  refine lv_iload_n hx hb dX12_of_1 rfl (lv_at hl 1 rfl) ?_
  refine vp_callSi (va_Run.run (va_runV (As := [.int a1]) (rest := []) ⟨hx, hb, hml, hown, hts⟩ (zd_X12_isMethod l D cI cZ cP cF h0 q S a1  _ h) (cwV 1 hts zg_zd_X12_of_zd_X12_isMethod_144 rfl rfl rfl (by decide +kernel) ⟨Nat.le_of_ble_eq_true rfl, Nat.le_of_ble_eq_true rfl⟩) ⟨zBR, va_recv hK hP (ci := 12) (q0 := 0) rfl rfl, fun U hU hW => ⟨rfl, by rw [hU]; exact hP, hE.warm hW⟩⟩ rfl rfl hl.1 rfl (lv_room (Nat.le_of_ble_eq_true rfl)) dX12_of_2 ⟨Nat.le_of_ble_eq_true rfl, Nat.le_of_ble_eq_true rfl⟩)) (fun r1 h => ?_)
  refine lv_if_ne (tgt := 11) hx hb dX12_of_5 (by decide) (fun c_2 => ?_) (fun c_2 => ?_)
  · have h := h.1 c_2
    refine lv_iload_n hx hb dX12_of_11 rfl (lv_at hl 2 rfl) ?_
    rcases zt_0_7 a2 with h_out | h_in | h_in | h_in | h_in | h_in | h_in | h_in | h_in
    · have h := h.1 h_out
      refine lv_tableOut (tgt := 136) hx hb dX12_of_12 h_out (by decide) ?_
      refine lv_bipush (v := (-2)) hx hb dX12_of_136 (by decide) ?_
      exact W.iret (v := (-2)) hx hb hr (fun t ht hW => ⟨_, rfl, h, ht⟩) (fun q h => by cases h) dX12_of_138
    · have h := h.2.1 h_in
      refine lv_tableIn (off := 48) (tgt := 60) hx hb dX12_of_12 (by rw [h_in]; decide) (by rw [h_in]; decide) (by rw [h_in]; decide) (by decide) ?_
      refine lv_aload_n hx hb dX12_of_60 rfl (lv_at hl 0 rfl) ?_
      refine va_get (D := D) (ci := 12) (v := .ref (q 15)) (C := RX12) (T := TX12) (N := 52) hx hb hts (fun _ h => List.mem_cons_of_mem _ (List.mem_append_right _ h)) hown hK hP 0 rfl rfl 15 (by decide) (hts (.fieldLink RX12 50 "TemplateForgeModel" "hasCode" "[Z") (List.mem_of_getElem? (i := 10) rfl)) (fun _ h9 => h9) rfl dX12_of_61 ?_
      refine lv_iload_n hx hb dX12_of_64 rfl (lv_at hl 1 rfl) ?_
      have hin_3 := h.1
      have h := h.2
      refine va_zald hx hb hK hP 14 1 rfl rfl hin_3 dX12_of_65 ?_
      refine lv_if_eq (tgt := 73) hx hb dX12_of_66 (by decide) (fun c_4 => ?_) (fun c_4 => ?_)
      · have h := h.1 c_4
        refine lv_iconst (v := 0) hx hb dX12_of_73 (by decide) ?_
        exact W.iret (v := 0) hx hb hr (fun t ht hW => ⟨_, rfl, h, ht⟩) (fun q h => by cases h) dX12_of_74
      · have h := h.2 c_4
        refine lv_iconst (v := 1) hx hb dX12_of_69 (by decide) ?_
        refine lv_goto (tgt := 74) hx hb dX12_of_70 (by decide) ?_
        exact W.iret (v := 1) hx hb hr (fun t ht hW => ⟨_, rfl, h, ht⟩) (fun q h => by cases h) dX12_of_74
    · have h := h.2.2.1 h_in
      refine lv_tableIn (off := 63) (tgt := 75) hx hb dX12_of_12 (by rw [h_in]; decide) (by rw [h_in]; decide) (by rw [h_in]; decide) (by decide) ?_
      refine lv_aload_n hx hb dX12_of_75 rfl (lv_at hl 0 rfl) ?_
      refine va_get (D := D) (ci := 12) (v := .ref (q 16)) (C := RX12) (T := TX12) (N := 52) hx hb hts (fun _ h => List.mem_cons_of_mem _ (List.mem_append_right _ h)) hown hK hP 0 rfl rfl 16 (by decide) (hts (.fieldLink RX12 53 "TemplateForgeModel" "counted" "[I") (List.mem_of_getElem? (i := 11) rfl)) (fun _ h9 => h9) rfl dX12_of_76 ?_
      refine lv_iload_n hx hb dX12_of_79 rfl (lv_at hl 1 rfl) ?_
      have hin_5 := h.1
      have h := h.2
      refine va_iald hx hb hK hP 15 0 rfl rfl hin_5 dX12_of_80 ?_
      exact W.iret (v := S 16 (a1 : Int32).toNatClampNeg) hx hb hr (fun t ht hW => ⟨_, rfl, h, ht⟩) (fun q h => by cases h) dX12_of_81
    · have h := h.2.2.2.1 h_in
      refine lv_tableIn (off := 70) (tgt := 82) hx hb dX12_of_12 (by rw [h_in]; decide) (by rw [h_in]; decide) (by rw [h_in]; decide) (by decide) ?_
      refine lv_aload_n hx hb dX12_of_82 rfl (lv_at hl 0 rfl) ?_
      refine va_get (D := D) (ci := 12) (v := .ref (q 17)) (C := RX12) (T := TX12) (N := 52) hx hb hts (fun _ h => List.mem_cons_of_mem _ (List.mem_append_right _ h)) hown hK hP 0 rfl rfl 17 (by decide) (hts (.fieldLink RX12 56 "TemplateForgeModel" "madeCodes" "[I") (List.mem_of_getElem? (i := 12) rfl)) (fun _ h9 => h9) rfl dX12_of_83 ?_
      refine lv_iload_n hx hb dX12_of_86 rfl (lv_at hl 1 rfl) ?_
      have hin_6 := h.1
      have h := h.2
      refine va_iald hx hb hK hP 16 0 rfl rfl hin_6 dX12_of_87 ?_
      exact W.iret (v := S 17 (a1 : Int32).toNatClampNeg) hx hb hr (fun t ht hW => ⟨_, rfl, h, ht⟩) (fun q h => by cases h) dX12_of_88
    · have h := h.2.2.2.2.1 h_in
      refine lv_tableIn (off := 77) (tgt := 89) hx hb dX12_of_12 (by rw [h_in]; decide) (by rw [h_in]; decide) (by rw [h_in]; decide) (by decide) ?_
      refine lv_aload_n hx hb dX12_of_89 rfl (lv_at hl 0 rfl) ?_
      refine va_get (D := D) (ci := 12) (v := .ref (q 18)) (C := RX12) (T := TX12) (N := 52) hx hb hts (fun _ h => List.mem_cons_of_mem _ (List.mem_append_right _ h)) hown hK hP 0 rfl rfl 18 (by decide) (hts (.fieldLink RX12 59 "TemplateForgeModel" "guardsFailed" "[I") (List.mem_of_getElem? (i := 13) rfl)) (fun _ h9 => h9) rfl dX12_of_90 ?_
      refine lv_iload_n hx hb dX12_of_93 rfl (lv_at hl 1 rfl) ?_
      have hin_7 := h.1
      have h := h.2
      refine va_iald hx hb hK hP 17 0 rfl rfl hin_7 dX12_of_94 ?_
      exact W.iret (v := S 18 (a1 : Int32).toNatClampNeg) hx hb hr (fun t ht hW => ⟨_, rfl, h, ht⟩) (fun q h => by cases h) dX12_of_95
    · have h := h.2.2.2.2.2.1 h_in
      refine lv_tableIn (off := 84) (tgt := 96) hx hb dX12_of_12 (by rw [h_in]; decide) (by rw [h_in]; decide) (by rw [h_in]; decide) (by decide) ?_
      refine lv_aload_n hx hb dX12_of_96 rfl (lv_at hl 0 rfl) ?_
      refine va_get (D := D) (ci := 12) (v := .ref (q 19)) (C := RX12) (T := TX12) (N := 52) hx hb hts (fun _ h => List.mem_cons_of_mem _ (List.mem_append_right _ h)) hown hK hP 0 rfl rfl 19 (by decide) (hts (.fieldLink RX12 62 "TemplateForgeModel" "codeCalls" "[I") (List.mem_of_getElem? (i := 14) rfl)) (fun _ h9 => h9) rfl dX12_of_97 ?_
      refine lv_iload_n hx hb dX12_of_100 rfl (lv_at hl 1 rfl) ?_
      have hin_8 := h.1
      have h := h.2
      refine va_iald hx hb hK hP 18 0 rfl rfl hin_8 dX12_of_101 ?_
      exact W.iret (v := S 19 (a1 : Int32).toNatClampNeg) hx hb hr (fun t ht hW => ⟨_, rfl, h, ht⟩) (fun q h => by cases h) dX12_of_102
    · have h := h.2.2.2.2.2.2.1 h_in
      refine lv_tableIn (off := 91) (tgt := 103) hx hb dX12_of_12 (by rw [h_in]; decide) (by rw [h_in]; decide) (by rw [h_in]; decide) (by decide) ?_
      refine lv_aload_n hx hb dX12_of_103 rfl (lv_at hl 0 rfl) ?_
      refine lv_iload_n hx hb dX12_of_104 rfl (lv_at hl 1 rfl) ?_
      refine vp_callSi (va_Run.run (va_runV (As := [.int a1]) (rest := []) ⟨hx, hb, hml, hown, hts⟩ (zd_X12_partsOf l D cI cZ cP cF h0 q S a1  _ h) (cwV 1 hts zg_zd_X12_of_zd_X12_partsOf_294 rfl rfl rfl (by decide +kernel) ⟨Nat.le_of_ble_eq_true rfl, Nat.le_of_ble_eq_true rfl⟩) ⟨zBR, va_recv hK hP (ci := 12) (q0 := 0) rfl rfl, fun U hU hW => ⟨rfl, by rw [hU]; exact hP, hE.warm hW⟩⟩ rfl rfl hl.1 rfl (lv_room (Nat.le_of_ble_eq_true rfl)) dX12_of_105 ⟨Nat.le_of_ble_eq_true rfl, Nat.le_of_ble_eq_true rfl⟩)) (fun r9 h => ?_)
      exact W.iret (v := r9) hx hb hr (fun t ht hW => ⟨_, rfl, h, ht⟩) (fun q h => by cases h) dX12_of_108
    · have h := h.2.2.2.2.2.2.2.1 h_in
      refine lv_tableIn (off := 97) (tgt := 109) hx hb dX12_of_12 (by rw [h_in]; decide) (by rw [h_in]; decide) (by rw [h_in]; decide) (by decide) ?_
      refine lv_aload_n hx hb dX12_of_109 rfl (lv_at hl 0 rfl) ?_
      refine va_get (D := D) (ci := 12) (v := .ref (q 3)) (C := RX12) (T := TX12) (N := 52) hx hb hts (fun _ h => List.mem_cons_of_mem _ (List.mem_append_right _ h)) hown hK hP 0 rfl rfl 3 (by decide) (hts (.fieldLink RX12 16 "TemplateForgeModel" "many" "[I") (List.mem_of_getElem? (i := 24) rfl)) (fun _ h9 => h9) rfl dX12_of_110 ?_
      refine lv_iload_n hx hb dX12_of_113 rfl (lv_at hl 1 rfl) ?_
      have hin_10 := h.1
      have h := h.2
      refine va_iald hx hb hK hP 3 0 rfl rfl hin_10 dX12_of_114 ?_
      exact W.iret (v := S 3 (a1 : Int32).toNatClampNeg) hx hb hr (fun t ht hW => ⟨_, rfl, h, ht⟩) (fun q h => by cases h) dX12_of_115
    · have h := h.2.2.2.2.2.2.2.2 h_in
      refine lv_tableIn (off := 104) (tgt := 116) hx hb dX12_of_12 (by rw [h_in]; decide) (by rw [h_in]; decide) (by rw [h_in]; decide) (by decide) ?_
      refine lv_aload_n hx hb dX12_of_116 rfl (lv_at hl 0 rfl) ?_
      refine va_get (D := D) (ci := 12) (v := .ref (q 6)) (C := RX12) (T := TX12) (N := 52) hx hb hts (fun _ h => List.mem_cons_of_mem _ (List.mem_append_right _ h)) hown hK hP 0 rfl rfl 6 (by decide) (hts (.fieldLink RX12 25 "TemplateForgeModel" "isLooked" "[Z") (List.mem_of_getElem? (i := 25) rfl)) (fun _ h9 => h9) rfl dX12_of_117 ?_
      refine lv_iload_n hx hb dX12_of_120 rfl (lv_at hl 1 rfl) ?_
      have hin_11 := h.1
      have h := h.2
      refine va_zald hx hb hK hP 6 1 rfl rfl hin_11 dX12_of_121 ?_
      refine lv_if_eq (tgt := 134) hx hb dX12_of_122 (by decide) (fun c_12 => ?_) (fun c_12 => ?_)
      · have h := h.1 c_12
        refine lv_iconst (v := (-1)) hx hb dX12_of_134 (by decide) ?_
        exact W.iret (v := (-1)) hx hb hr (fun t ht hW => ⟨_, rfl, h, ht⟩) (fun q h => by cases h) dX12_of_135
      · have h := h.2 c_12
        refine lv_aload_n hx hb dX12_of_125 rfl (lv_at hl 0 rfl) ?_
        refine va_get (D := D) (ci := 12) (v := .ref (q 8)) (C := RX12) (T := TX12) (N := 52) hx hb hts (fun _ h => List.mem_cons_of_mem _ (List.mem_append_right _ h)) hown hK hP 0 rfl rfl 8 (by decide) (hts (.fieldLink RX12 32 "TemplateForgeModel" "deepest" "[I") (List.mem_of_getElem? (i := 26) rfl)) (fun _ h9 => h9) rfl dX12_of_126 ?_
        refine lv_iload_n hx hb dX12_of_129 rfl (lv_at hl 1 rfl) ?_
        have hin_13 := h.1
        have h := h.2
        refine va_iald hx hb hK hP 8 0 rfl rfl hin_13 dX12_of_130 ?_
        refine lv_goto (tgt := 135) hx hb dX12_of_131 (by decide) ?_
        exact W.iret (v := S 8 (a1 : Int32).toNatClampNeg) hx hb hr (fun t ht hW => ⟨_, rfl, h, ht⟩) (fun q h => by cases h) dX12_of_135
  · have h := h.2 c_2
    refine lv_bipush (v := (-2)) hx hb dX12_of_8 (by decide) ?_
    exact W.iret (v := (-2)) hx hb hr (fun t ht hW => ⟨_, rfl, h, ht⟩) (fun q h => by cases h) dX12_of_10
