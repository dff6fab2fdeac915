def wl_X12_makeCode_99 (K_266 : MST → Prop) (Post : MST → Prop) : Nat → MST → Int32 → Int32 → Prop
  | 0, _, _, _ => False
  | n_99 + 1, S_99, x99_1, x99_2 => vp_in x99_1 8 ∧ ((((S_99 3 (x99_1 : Int32).toNatClampNeg) ≤ x99_2) → ((K_266 S_99 ))) ∧ ((¬ ((S_99 3 (x99_1 : Int32).toNatClampNeg) ≤ x99_2)) → (vp_in ((60 * x99_1) + x99_2) 480 ∧ (((((S_99 7 ((60 * x99_1) + x99_2 : Int32).toNatClampNeg) : Int32) < 0) → (wl_X12_makeCode_99 K_266 Post n_99 S_99 x99_1 (x99_2 + 1))) ∧ ((¬ (((S_99 7 ((60 * x99_1) + x99_2 : Int32).toNatClampNeg) : Int32) < 0)) → (wp_X12_isTarget S_99 x99_1 x99_2 (fun r15 => (((r15 : Int32) = 0) → (((¬ ((x99_2 : Int32) = 0)) → (vp_in (S_99 31 0) 96 ∧ (vp_in ((60 * (S_99 31 0)) + x99_2) 5760 ∧ (∀ S19 : MST, S19 = ms S_99 24 (upd (S_99 24) ((60 * (S_99 31 0)) + x99_2 : Int32).toNatClampNeg (S_99 23 (S_99 31 0 : Int32).toNatClampNeg)) → (∀ S20 : MST, S20 = ms S19 32 (fun _ => x99_2) → (wp_X12_make S20 x99_1 x99_2 (fun S21 => wl_X12_makeCode_99 K_266 Post n_99 S21 x99_1 (x99_2 + 1)))))))) ∧ (((x99_2 : Int32) = 0) → (vp_in ((60 * (S_99 31 0)) + x99_2) 5760 ∧ (∀ S22 : MST, S22 = ms S_99 24 (upd (S_99 24) ((60 * (S_99 31 0)) + x99_2 : Int32).toNatClampNeg 0) → (∀ S23 : MST, S23 = ms S22 32 (fun _ => x99_2) → (wp_X12_make S23 x99_1 x99_2 (fun S24 => wl_X12_makeCode_99 K_266 Post n_99 S24 x99_1 (x99_2 + 1))))))))) ∧ ((¬ ((r15 : Int32) = 0)) → ((((x99_2 : Int32) ≤ 0) → (wp_X12_begins S_99 x99_1 (fun S26 => ((¬ ((x99_2 : Int32) = 0)) → (vp_in (S26 31 0) 96 ∧ (vp_in ((60 * (S26 31 0)) + x99_2) 5760 ∧ (∀ S29 : MST, S29 = ms S26 24 (upd (S26 24) ((60 * (S26 31 0)) + x99_2 : Int32).toNatClampNeg (S26 23 (S26 31 0 : Int32).toNatClampNeg)) → (∀ S30 : MST, S30 = ms S29 32 (fun _ => x99_2) → (wp_X12_make S30 x99_1 x99_2 (fun S31 => wl_X12_makeCode_99 K_266 Post n_99 S31 x99_1 (x99_2 + 1)))))))) ∧ (((x99_2 : Int32) = 0) → (vp_in ((60 * (S26 31 0)) + x99_2) 5760 ∧ (∀ S32 : MST, S32 = ms S26 24 (upd (S26 24) ((60 * (S26 31 0)) + x99_2 : Int32).toNatClampNeg 0) → (∀ S33 : MST, S33 = ms S32 32 (fun _ => x99_2) → (wp_X12_make S33 x99_1 x99_2 (fun S34 => wl_X12_makeCode_99 K_266 Post n_99 S34 x99_1 (x99_2 + 1)))))))))) ∧ ((¬ ((x99_2 : Int32) ≤ 0)) → (vp_in (((60 * x99_1) + x99_2) - 1) 480 ∧ (((((S_99 7 (((60 * x99_1) + x99_2) - 1 : Int32).toNatClampNeg) : Int32) < 0) → (wp_X12_begins S_99 x99_1 (fun S37 => ((¬ ((x99_2 : Int32) = 0)) → (vp_in (S37 31 0) 96 ∧ (vp_in ((60 * (S37 31 0)) + x99_2) 5760 ∧ (∀ S40 : MST, S40 = ms S37 24 (upd (S37 24) ((60 * (S37 31 0)) + x99_2 : Int32).toNatClampNeg (S37 23 (S37 31 0 : Int32).toNatClampNeg)) → (∀ S41 : MST, S41 = ms S40 32 (fun _ => x99_2) → (wp_X12_make S41 x99_1 x99_2 (fun S42 => wl_X12_makeCode_99 K_266 Post n_99 S42 x99_1 (x99_2 + 1)))))))) ∧ (((x99_2 : Int32) = 0) → (vp_in ((60 * (S37 31 0)) + x99_2) 5760 ∧ (∀ S43 : MST, S43 = ms S37 24 (upd (S37 24) ((60 * (S37 31 0)) + x99_2 : Int32).toNatClampNeg 0) → (∀ S44 : MST, S44 = ms S43 32 (fun _ => x99_2) → (wp_X12_make S44 x99_1 x99_2 (fun S45 => wl_X12_makeCode_99 K_266 Post n_99 S45 x99_1 (x99_2 + 1)))))))))) ∧ ((¬ (((S_99 7 (((60 * x99_1) + x99_2) - 1 : Int32).toNatClampNeg) : Int32) < 0)) → (vp_in (((60 * x99_1) + x99_2) - 1) 480 ∧ (((((S_99 4 (((60 * x99_1) + x99_2) - 1 : Int32).toNatClampNeg) : Int32) = 9) → (wp_X12_begins S_99 x99_1 (fun S48 => ((¬ ((x99_2 : Int32) = 0)) → (vp_in (S48 31 0) 96 ∧ (vp_in ((60 * (S48 31 0)) + x99_2) 5760 ∧ (∀ S51 : MST, S51 = ms S48 24 (upd (S48 24) ((60 * (S48 31 0)) + x99_2 : Int32).toNatClampNeg (S48 23 (S48 31 0 : Int32).toNatClampNeg)) → (∀ S52 : MST, S52 = ms S51 32 (fun _ => x99_2) → (wp_X12_make S52 x99_1 x99_2 (fun S53 => wl_X12_makeCode_99 K_266 Post n_99 S53 x99_1 (x99_2 + 1)))))))) ∧ (((x99_2 : Int32) = 0) → (vp_in ((60 * (S48 31 0)) + x99_2) 5760 ∧ (∀ S54 : MST, S54 = ms S48 24 (upd (S48 24) ((60 * (S48 31 0)) + x99_2 : Int32).toNatClampNeg 0) → (∀ S55 : MST, S55 = ms S54 32 (fun _ => x99_2) → (wp_X12_make S55 x99_1 x99_2 (fun S56 => wl_X12_makeCode_99 K_266 Post n_99 S56 x99_1 (x99_2 + 1)))))))))) ∧ ((¬ (((S_99 4 (((60 * x99_1) + x99_2) - 1 : Int32).toNatClampNeg) : Int32) = 9)) → (vp_in (((60 * x99_1) + x99_2) - 1) 480 ∧ (((((S_99 4 (((60 * x99_1) + x99_2) - 1 : Int32).toNatClampNeg) : Int32) = 12) → (wp_X12_begins S_99 x99_1 (fun S59 => ((¬ ((x99_2 : Int32) = 0)) → (vp_in (S59 31 0) 96 ∧ (vp_in ((60 * (S59 31 0)) + x99_2) 5760 ∧ (∀ S62 : MST, S62 = ms S59 24 (upd (S59 24) ((60 * (S59 31 0)) + x99_2 : Int32).toNatClampNeg (S59 23 (S59 31 0 : Int32).toNatClampNeg)) → (∀ S63 : MST, S63 = ms S62 32 (fun _ => x99_2) → (wp_X12_make S63 x99_1 x99_2 (fun S64 => wl_X12_makeCode_99 K_266 Post n_99 S64 x99_1 (x99_2 + 1)))))))) ∧ (((x99_2 : Int32) = 0) → (vp_in ((60 * (S59 31 0)) + x99_2) 5760 ∧ (∀ S65 : MST, S65 = ms S59 24 (upd (S59 24) ((60 * (S59 31 0)) + x99_2 : Int32).toNatClampNeg 0) → (∀ S66 : MST, S66 = ms S65 32 (fun _ => x99_2) → (wp_X12_make S66 x99_1 x99_2 (fun S67 => wl_X12_makeCode_99 K_266 Post n_99 S67 x99_1 (x99_2 + 1)))))))))) ∧ ((¬ (((S_99 4 (((60 * x99_1) + x99_2) - 1 : Int32).toNatClampNeg) : Int32) = 12)) → (vp_in ((60 * x99_1) + x99_2) 480 ∧ (wp_X12_layAll S_99 (S_99 7 ((60 * x99_1) + x99_2 : Int32).toNatClampNeg) (fun S69 => wp_X12_begins S69 x99_1 (fun S70 => ((¬ ((x99_2 : Int32) = 0)) → (vp_in (S70 31 0) 96 ∧ (vp_in ((60 * (S70 31 0)) + x99_2) 5760 ∧ (∀ S73 : MST, S73 = ms S70 24 (upd (S70 24) ((60 * (S70 31 0)) + x99_2 : Int32).toNatClampNeg (S70 23 (S70 31 0 : Int32).toNatClampNeg)) → (∀ S74 : MST, S74 = ms S73 32 (fun _ => x99_2) → (wp_X12_make S74 x99_1 x99_2 (fun S75 => wl_X12_makeCode_99 K_266 Post n_99 S75 x99_1 (x99_2 + 1)))))))) ∧ (((x99_2 : Int32) = 0) → (vp_in ((60 * (S70 31 0)) + x99_2) 5760 ∧ (∀ S76 : MST, S76 = ms S70 24 (upd (S70 24) ((60 * (S70 31 0)) + x99_2 : Int32).toNatClampNeg 0) → (∀ S77 : MST, S77 = ms S76 32 (fun _ => x99_2) → (wp_X12_make S77 x99_1 x99_2 (fun S78 => wl_X12_makeCode_99 K_266 Post n_99 S78 x99_1 (x99_2 + 1))))))))))))))))))))))))))))))
def wl_X12_makeCode_48 (K_87 : MST → Int32 → Prop) (Post : MST → Prop) : Nat → MST → Int32 → Int32 → Prop
  | 0, _, _, _ => False
  | n_48 + 1, S_48, x48_1, x48_2 => ((3 ≤ x48_2) → ((K_87 S_48 x48_1))) ∧ ((¬ (3 ≤ x48_2)) → (vp_in x48_2 11 ∧ (((((S_48 30 (x48_2 : Int32).toNatClampNeg) : Int32) = 0) → (wl_X12_makeCode_48 K_87 Post n_48 S_48 x48_1 (x48_2 + 1))) ∧ ((¬ (((S_48 30 (x48_2 : Int32).toNatClampNeg) : Int32) = 0)) → (vp_in ((11 * x48_1) + x48_2) 88 ∧ (wp_X12_part S_48 17 x48_2 (S_48 20 ((11 * x48_1) + x48_2 : Int32).toNatClampNeg) 0 (fun S83 => wl_X12_makeCode_48 K_87 Post n_48 S83 x48_1 (x48_2 + 1))))))))
def wp_X12_makeCode (S : MST) (a1 : Int32) (Post : MST → Prop) : Prop :=
  wp_X12_assumes S a1 (fun S1 => vp_in a1 8 ∧ (vp_in a1 8 ∧ (∀ S3 : MST, S3 = ms S1 17 (upd (S1 17) (a1 : Int32).toNatClampNeg ((S1 17 (a1 : Int32).toNatClampNeg) + 1)) → (vp_in a1 8 ∧ (∀ S4 : MST, S4 = ms S3 15 (upd (S3 15) (a1 : Int32).toNatClampNeg (vp_nar .boolean 1)) → (wp_X12_codeNow S4 a1 (fun r5 => ∀ S6 : MST, S6 = ms S4 31 (fun _ => r5) → (vp_in (S6 31 0) 96 ∧ (∀ S7 : MST, S7 = ms S6 23 (upd (S6 23) (S6 31 0 : Int32).toNatClampNeg 0) → (∀ S8 : MST, S8 = ms S7 32 (fun _ => 0) → (∃ n_48, wl_X12_makeCode_48 (fun S_87 x87_1 => wp_X12_fieldGuards S_87 x87_1 (fun S9 => wp_X12_begins S9 x87_1 (fun S10 => ∃ n_99, wl_X12_makeCode_99 (fun S_266 => Post S_266) Post n_99 S10 x87_1 0))) Post n_48 S8 a1 0)))))))))))
def zw_zd_X12_makeCode_w0 : List Cond := [.code yX12_assumes cX12_assumes 4 none, .code yX12_has cX12_has 6 (some .boolean), .fieldLink RX12 16 "TemplateForgeModel" "many" "[I", .fieldLink RX12 29 "TemplateForgeModel" "depths" "[I", .fieldLink RX12 19 "TemplateForgeModel" "op" "[I", .fieldLink RX12 22 "TemplateForgeModel" "operand" "[I", .methodLink RX12 178 yX12_has, .instanceMethod yX12_has, .selects RX12 yX12_has yX12_has, .initialized RX12, .fieldLink RX12 96 "TemplateForgeModel" "assumed" "[Z", .fieldLink RX12 71 "TemplateForgeModel" "doesVary" "[Z", .fieldLink RX12 68 "TemplateForgeModel" "isLike" "[Z", .fieldLink RX12 7 "TemplateForgeModel" "args" "[I", .methodLink RX12 214 yX12_assumes, .instanceMethod yX12_assumes]
def zw_zd_X12_makeCode_w1 : List Cond := [.selects RX12 yX12_assumes yX12_assumes, .fieldLink RX12 56 "TemplateForgeModel" "madeCodes" "[I", .fieldLink RX12 50 "TemplateForgeModel" "hasCode" "[Z", .code yX12_codeNow cX12_codeNow 2 (some .int), .methodLink RX12 217 yX12_codeNow, .instanceMethod yX12_codeNow, .selects RX12 yX12_codeNow yX12_codeNow, .fieldLink RX12 181 "TemplateForgeModel" "code" "I", .fieldLink RX12 74 "TemplateForgeModel" "partMany" "[I", .fieldLink RX12 184 "TemplateForgeModel" "owner" "I", .code yX12_fieldGuards cX12_fieldGuards 3 none, .fieldLink RX12 65 "TemplateForgeModel" "value" "[I", .code yX12_part cX12_part 6 none, .fieldLink RX12 81 "TemplateForgeModel" "partOp" "[I", .fieldLink RX12 84 "TemplateForgeModel" "partD" "[I", .fieldLink RX12 87 "TemplateForgeModel" "partA" "[I"]
def zw_zd_X12_makeCode_w2 : List Cond := [.fieldLink RX12 90 "TemplateForgeModel" "partB" "[I", .fieldLink RX12 93 "TemplateForgeModel" "partOf" "[I", .methodLink RX12 187 yX12_part, .instanceMethod yX12_part, .selects RX12 yX12_part yX12_part, .methodLink RX12 208 yX12_fieldGuards, .instanceMethod yX12_fieldGuards, .selects RX12 yX12_fieldGuards yX12_fieldGuards, .code yX12_begins cX12_begins 3 none, .fieldLink RX12 99 "TemplateForgeModel" "localKnown" "[Z", .fieldLink RX12 102 "TemplateForgeModel" "localIs" "[I", .fieldLink RX12 105 "TemplateForgeModel" "placeKnown" "[Z", .methodLink RX12 220 yX12_begins, .instanceMethod yX12_begins, .selects RX12 yX12_begins yX12_begins, .code yX12_isTarget cX12_isTarget 3 (some .boolean)]
def zw_zd_X12_makeCode_w3 : List Cond := [.methodLink RX12 223 yX12_isTarget, .instanceMethod yX12_isTarget, .selects RX12 yX12_isTarget yX12_isTarget, .fieldLink RX12 77 "TemplateForgeModel" "starts" "[I", .code yX12_make cX12_make 7 none, .code yX12_makeTwo cX12_makeTwo 5 none, .code yX12_layOne cX12_layOne 2 none, .fieldLink RX12 108 "TemplateForgeModel" "placeIs" "[I", .methodLink RX12 191 yX12_layOne, .instanceMethod yX12_layOne, .selects RX12 yX12_layOne yX12_layOne, .code yX12_sumOf cX12_sumOf 3 (some .int), .methodLink RX12 195 yX12_sumOf, .static yX12_sumOf, .methodLink RX12 211 yX12_makeTwo, .instanceMethod yX12_makeTwo]
def zw_zd_X12_makeCode_w4 : List Cond := [.selects RX12 yX12_makeTwo yX12_makeTwo, .code yX12_knows cX12_knows 3 none, .methodLink RX12 201 yX12_knows, .instanceMethod yX12_knows, .selects RX12 yX12_knows yX12_knows, .code yX12_layAll cX12_layAll 3 none, .methodLink RX12 198 yX12_layAll, .instanceMethod yX12_layAll, .selects RX12 yX12_layAll yX12_layAll, .code yX12_makeWhen cX12_makeWhen 3 none, .methodLink RX12 205 yX12_makeWhen, .instanceMethod yX12_makeWhen, .selects RX12 yX12_makeWhen yX12_makeWhen, .methodLink RX12 227 yX12_make, .instanceMethod yX12_make, .selects RX12 yX12_make yX12_make]
def zw_zd_X12_makeCode : List Cond := .code yX12_makeCode cX12_makeCode 4 none :: ((zw_zd_X12_makeCode_w0 ++ (zw_zd_X12_makeCode_w1 ++ (zw_zd_X12_makeCode_w2 ++ (zw_zd_X12_makeCode_w3 ++ (zw_zd_X12_makeCode_w4))))) ++ wsX120)
set_option maxRecDepth 100000 in
theorem zg_zd_X12_makeCode_zd_X12_assumes_214_a : GoodIn zw_zd_X12_makeCode [.methodLink RX12 214 yX12_assumes, .instanceMethod yX12_assumes, .selects RX12 yX12_assumes yX12_assumes, .initialized RX12] := goodIn_r _ [15, 16, 17, 10] rfl (by decide +kernel)
set_option maxRecDepth 100000 in
theorem zg_zd_X12_makeCode_zd_X12_assumes_214_c : GoodIn zw_zd_X12_makeCode [.code yX12_assumes cX12_assumes 4 none] := goodIn_r _ [1] rfl (by decide +kernel)
set_option maxRecDepth 100000 in
theorem zg_zd_X12_makeCode_zd_X12_assumes_214_0 : GoodIn zw_zd_X12_makeCode zw_zd_X12_assumes_w0 := goodIn_r _ [2, 3, 4, 5, 6, 7, 8, 9, 10, 11, 12, 13, 14] rfl (by decide +kernel)
theorem zg_zd_X12_makeCode_zd_X12_assumes_214 : GoodIn zw_zd_X12_makeCode (wsV RX12 214 RX12 yX12_assumes zw_zd_X12_assumes) := goodIn_app zg_zd_X12_makeCode_zd_X12_assumes_214_a (goodIn_ca (a := (zw_zd_X12_assumes_w0)) (show GoodIn zw_zd_X12_makeCode (.code yX12_assumes cX12_assumes 4 none :: (zw_zd_X12_assumes_w0)) from goodIn_app zg_zd_X12_makeCode_zd_X12_assumes_214_c (zg_zd_X12_makeCode_zd_X12_assumes_214_0)) (fun w h => ⟨(fun _ h => List.mem_cons_of_mem _ (List.mem_append_right _ h)) w h, good_of_word (List.all_eq_true.mp zgw_X12 w h)⟩))
set_option maxRecDepth 100000 in
theorem zg_zd_X12_makeCode_zd_X12_codeNow_217_a : GoodIn zw_zd_X12_makeCode [.methodLink RX12 217 yX12_codeNow, .instanceMethod yX12_codeNow, .selects RX12 yX12_codeNow yX12_codeNow, .initialized RX12] := goodIn_r _ [21, 22, 23, 10] rfl (by decide +kernel)
set_option maxRecDepth 100000 in
theorem zg_zd_X12_makeCode_zd_X12_codeNow_217_c : GoodIn zw_zd_X12_makeCode [.code yX12_codeNow cX12_codeNow 2 (some .int)] := goodIn_r _ [20] rfl (by decide +kernel)
set_option maxRecDepth 100000 in
theorem zg_zd_X12_makeCode_zd_X12_codeNow_217_0 : GoodIn zw_zd_X12_makeCode zw_zd_X12_codeNow_w0 := goodIn_r _ [18] rfl (by decide +kernel)
theorem zg_zd_X12_makeCode_zd_X12_codeNow_217 : GoodIn zw_zd_X12_makeCode (wsV RX12 217 RX12 yX12_codeNow zw_zd_X12_codeNow) := goodIn_app zg_zd_X12_makeCode_zd_X12_codeNow_217_a (goodIn_ca (a := (zw_zd_X12_codeNow_w0)) (show GoodIn zw_zd_X12_makeCode (.code yX12_codeNow cX12_codeNow 2 (some .int) :: (zw_zd_X12_codeNow_w0)) from goodIn_app zg_zd_X12_makeCode_zd_X12_codeNow_217_c (zg_zd_X12_makeCode_zd_X12_codeNow_217_0)) (fun w h => ⟨(fun _ h => List.mem_cons_of_mem _ (List.mem_append_right _ h)) w h, good_of_word (List.all_eq_true.mp zgw_X12 w h)⟩))
set_option maxRecDepth 100000 in
theorem zg_zd_X12_makeCode_zd_X12_fieldGuards_208_a : GoodIn zw_zd_X12_makeCode [.methodLink RX12 208 yX12_fieldGuards, .instanceMethod yX12_fieldGuards, .selects RX12 yX12_fieldGuards yX12_fieldGuards, .initialized RX12] := goodIn_r _ [38, 39, 40, 10] rfl (by decide +kernel)
set_option maxRecDepth 100000 in
theorem zg_zd_X12_makeCode_zd_X12_fieldGuards_208_c : GoodIn zw_zd_X12_makeCode [.code yX12_fieldGuards cX12_fieldGuards 3 none] := goodIn_r _ [27] rfl (by decide +kernel)
set_option maxRecDepth 100000 in
theorem zg_zd_X12_makeCode_zd_X12_fieldGuards_208_0 : GoodIn zw_zd_X12_makeCode zw_zd_X12_fieldGuards_w0 := goodIn_r _ [11, 28, 29, 24, 25, 30, 31, 32, 33, 34, 26, 35, 36, 37, 10] rfl (by decide +kernel)
theorem zg_zd_X12_makeCode_zd_X12_fieldGuards_208 : GoodIn zw_zd_X12_makeCode (wsV RX12 208 RX12 yX12_fieldGuards zw_zd_X12_fieldGuards) := goodIn_app zg_zd_X12_makeCode_zd_X12_fieldGuards_208_a (goodIn_ca (a := (zw_zd_X12_fieldGuards_w0)) (show GoodIn zw_zd_X12_makeCode (.code yX12_fieldGuards cX12_fieldGuards 3 none :: (zw_zd_X12_fieldGuards_w0)) from goodIn_app zg_zd_X12_makeCode_zd_X12_fieldGuards_208_c (zg_zd_X12_makeCode_zd_X12_fieldGuards_208_0)) (fun w h => ⟨(fun _ h => List.mem_cons_of_mem _ (List.mem_append_right _ h)) w h, good_of_word (List.all_eq_true.mp zgw_X12 w h)⟩))
set_option maxRecDepth 100000 in
theorem zg_zd_X12_makeCode_zd_X12_begins_220_a : GoodIn zw_zd_X12_makeCode [.methodLink RX12 220 yX12_begins, .instanceMethod yX12_begins, .selects RX12 yX12_begins yX12_begins, .initialized RX12] := goodIn_r _ [45, 46, 47, 10] rfl (by decide +kernel)
set_option maxRecDepth 100000 in
theorem zg_zd_X12_makeCode_zd_X12_begins_220_c : GoodIn zw_zd_X12_makeCode [.code yX12_begins cX12_begins 3 none] := goodIn_r _ [41] rfl (by decide +kernel)
set_option maxRecDepth 100000 in
theorem zg_zd_X12_makeCode_zd_X12_begins_220_0 : GoodIn zw_zd_X12_makeCode zw_zd_X12_begins_w0 := goodIn_r _ [42, 43, 28, 11, 44] rfl (by decide +kernel)
theorem zg_zd_X12_makeCode_zd_X12_begins_220 : GoodIn zw_zd_X12_makeCode (wsV RX12 220 RX12 yX12_begins zw_zd_X12_begins) := goodIn_app zg_zd_X12_makeCode_zd_X12_begins_220_a (goodIn_ca (a := (zw_zd_X12_begins_w0)) (show GoodIn zw_zd_X12_makeCode (.code yX12_begins cX12_begins 3 none :: (zw_zd_X12_begins_w0)) from goodIn_app zg_zd_X12_makeCode_zd_X12_begins_220_c (zg_zd_X12_makeCode_zd_X12_begins_220_0)) (fun w h => ⟨(fun _ h => List.mem_cons_of_mem _ (List.mem_append_right _ h)) w h, good_of_word (List.all_eq_true.mp zgw_X12 w h)⟩))
set_option maxRecDepth 100000 in
theorem zg_zd_X12_makeCode_zd_X12_isTarget_223_a : GoodIn zw_zd_X12_makeCode [.methodLink RX12 223 yX12_isTarget, .instanceMethod yX12_isTarget, .selects RX12 yX12_isTarget yX12_isTarget, .initialized RX12] := goodIn_r _ [49, 50, 51, 10] rfl (by decide +kernel)
set_option maxRecDepth 100000 in
theorem zg_zd_X12_makeCode_zd_X12_isTarget_223_c : GoodIn zw_zd_X12_makeCode [.code yX12_isTarget cX12_isTarget 3 (some .boolean)] := goodIn_r _ [48] rfl (by decide +kernel)
set_option maxRecDepth 100000 in
theorem zg_zd_X12_makeCode_zd_X12_isTarget_223_0 : GoodIn zw_zd_X12_makeCode zw_zd_X12_isTarget_w0 := goodIn_r _ [2, 3, 4, 5, 6, 7, 8, 9, 10] rfl (by decide +kernel)
theorem zg_zd_X12_makeCode_zd_X12_isTarget_223 : GoodIn zw_zd_X12_makeCode (wsV RX12 223 RX12 yX12_isTarget zw_zd_X12_isTarget) := goodIn_app zg_zd_X12_makeCode_zd_X12_isTarget_223_a (goodIn_ca (a := (zw_zd_X12_isTarget_w0)) (show GoodIn zw_zd_X12_makeCode (.code yX12_isTarget cX12_isTarget 3 (some .boolean) :: (zw_zd_X12_isTarget_w0)) from goodIn_app zg_zd_X12_makeCode_zd_X12_isTarget_223_c (zg_zd_X12_makeCode_zd_X12_isTarget_223_0)) (fun w h => ⟨(fun _ h => List.mem_cons_of_mem _ (List.mem_append_right _ h)) w h, good_of_word (List.all_eq_true.mp zgw_X12 w h)⟩))
set_option maxRecDepth 100000 in
theorem zg_zd_X12_makeCode_zd_X12_make_227_a : GoodIn zw_zd_X12_makeCode [.methodLink RX12 227 yX12_make, .instanceMethod yX12_make, .selects RX12 yX12_make yX12_make, .initialized RX12] := goodIn_r _ [78, 79, 80, 10] rfl (by decide +kernel)
set_option maxRecDepth 100000 in
theorem zg_zd_X12_makeCode_zd_X12_make_227_c : GoodIn zw_zd_X12_makeCode [.code yX12_make cX12_make 7 none] := goodIn_r _ [53] rfl (by decide +kernel)
set_option maxRecDepth 100000 in
theorem zg_zd_X12_makeCode_zd_X12_make_227_0 : GoodIn zw_zd_X12_makeCode zw_zd_X12_make_w0 := goodIn_r _ [5, 6, 4, 54, 44, 55, 56, 29, 24, 25, 30, 31, 32, 33, 34, 26] rfl (by decide +kernel)
set_option maxRecDepth 100000 in
theorem zg_zd_X12_makeCode_zd_X12_make_227_1 : GoodIn zw_zd_X12_makeCode zw_zd_X12_make_w1 := goodIn_r _ [35, 36, 37, 10, 57, 58, 59, 60, 61, 62, 63, 64, 65, 66, 67, 68] rfl (by decide +kernel)
set_option maxRecDepth 100000 in
theorem zg_zd_X12_makeCode_zd_X12_make_227_2 : GoodIn zw_zd_X12_makeCode zw_zd_X12_make_w2 := goodIn_r _ [69, 42, 43, 70, 71, 72, 73, 74, 75, 76, 77, 14, 27, 11, 28, 38] rfl (by decide +kernel)
set_option maxRecDepth 100000 in
theorem zg_zd_X12_makeCode_zd_X12_make_227_3 : GoodIn zw_zd_X12_makeCode zw_zd_X12_make_w3 := goodIn_r _ [39, 40] rfl (by decide +kernel)
theorem zg_zd_X12_makeCode_zd_X12_make_227 : GoodIn zw_zd_X12_makeCode (wsV RX12 227 RX12 yX12_make zw_zd_X12_make) := goodIn_app zg_zd_X12_makeCode_zd_X12_make_227_a (goodIn_ca (a := (zw_zd_X12_make_w0 ++ (zw_zd_X12_make_w1 ++ (zw_zd_X12_make_w2 ++ (zw_zd_X12_make_w3))))) (show GoodIn zw_zd_X12_makeCode (.code yX12_make cX12_make 7 none :: (zw_zd_X12_make_w0 ++ (zw_zd_X12_make_w1 ++ (zw_zd_X12_make_w2 ++ (zw_zd_X12_make_w3))))) from goodIn_app zg_zd_X12_makeCode_zd_X12_make_227_c (goodIn_app zg_zd_X12_makeCode_zd_X12_make_227_0 (goodIn_app zg_zd_X12_makeCode_zd_X12_make_227_1 (goodIn_app zg_zd_X12_makeCode_zd_X12_make_227_2 (zg_zd_X12_makeCode_zd_X12_make_227_3))))) (fun w h => ⟨(fun _ h => List.mem_cons_of_mem _ (List.mem_append_right _ h)) w h, good_of_word (List.all_eq_true.mp zgw_X12 w h)⟩))
set_option maxRecDepth 100000 in
theorem zg_zd_X12_makeCode_zd_X12_layAll_198_a : GoodIn zw_zd_X12_makeCode [.methodLink RX12 198 yX12_layAll, .instanceMethod yX12_layAll, .selects RX12 yX12_layAll yX12_layAll, .initialized RX12] := goodIn_r _ [71, 72, 73, 10] rfl (by decide +kernel)
set_option maxRecDepth 100000 in
theorem zg_zd_X12_makeCode_zd_X12_layAll_198_c : GoodIn zw_zd_X12_makeCode [.code yX12_layAll cX12_layAll 3 none] := goodIn_r _ [70] rfl (by decide +kernel)
set_option maxRecDepth 100000 in
theorem zg_zd_X12_makeCode_zd_X12_layAll_198_0 : GoodIn zw_zd_X12_makeCode zw_zd_X12_layAll_w0 := goodIn_r _ [55, 44, 56, 29, 24, 25, 30, 31, 32, 33, 34, 26, 35, 36, 37, 10] rfl (by decide +kernel)
set_option maxRecDepth 100000 in
theorem zg_zd_X12_makeCode_zd_X12_layAll_198_1 : GoodIn zw_zd_X12_makeCode zw_zd_X12_layAll_w1 := goodIn_r _ [57, 58, 59] rfl (by decide +kernel)
theorem zg_zd_X12_makeCode_zd_X12_layAll_198 : GoodIn zw_zd_X12_makeCode (wsV RX12 198 RX12 yX12_layAll zw_zd_X12_layAll) := goodIn_app zg_zd_X12_makeCode_zd_X12_layAll_198_a (goodIn_ca (a := (zw_zd_X12_layAll_w0 ++ (zw_zd_X12_layAll_w1))) (show GoodIn zw_zd_X12_makeCode (.code yX12_layAll cX12_layAll 3 none :: (zw_zd_X12_layAll_w0 ++ (zw_zd_X12_layAll_w1))) from goodIn_app zg_zd_X12_makeCode_zd_X12_layAll_198_c (goodIn_app zg_zd_X12_makeCode_zd_X12_layAll_198_0 (zg_zd_X12_makeCode_zd_X12_layAll_198_1))) (fun w h => ⟨(fun _ h => List.mem_cons_of_mem _ (List.mem_append_right _ h)) w h, good_of_word (List.all_eq_true.mp zgw_X12 w h)⟩))
set_option maxRecDepth 100000 in
theorem zg_zd_X12_makeCode_zd_X12_part_187_a : GoodIn zw_zd_X12_makeCode [.methodLink RX12 187 yX12_part, .instanceMethod yX12_part, .selects RX12 yX12_part yX12_part, .initialized RX12] := goodIn_r _ [35, 36, 37, 10] rfl (by decide +kernel)
set_option maxRecDepth 100000 in
theorem zg_zd_X12_makeCode_zd_X12_part_187_c : GoodIn zw_zd_X12_makeCode [.code yX12_part cX12_part 6 none] := goodIn_r _ [29] rfl (by decide +kernel)
set_option maxRecDepth 100000 in
theorem zg_zd_X12_makeCode_zd_X12_part_187_0 : GoodIn zw_zd_X12_makeCode zw_zd_X12_part_w0 := goodIn_r _ [24, 25, 30, 31, 32, 33, 34, 26] rfl (by decide +kernel)
theorem zg_zd_X12_makeCode_zd_X12_part_187 : GoodIn zw_zd_X12_makeCode (wsV RX12 187 RX12 yX12_part zw_zd_X12_part) := goodIn_app zg_zd_X12_makeCode_zd_X12_part_187_a (goodIn_ca (a := (zw_zd_X12_part_w0)) (show GoodIn zw_zd_X12_makeCode (.code yX12_part cX12_part 6 none :: (zw_zd_X12_part_w0)) from goodIn_app zg_zd_X12_makeCode_zd_X12_part_187_c (zg_zd_X12_makeCode_zd_X12_part_187_0)) (fun w h => ⟨(fun _ h => List.mem_cons_of_mem _ (List.mem_append_right _ h)) w h, good_of_word (List.all_eq_true.mp zgw_X12 w h)⟩))
set_option maxHeartbeats 16000000 in
set_option maxRecDepth 100000 in
theorem zd_X12_makeCode (l : Launch) (D : va_G) (cI cZ cP cF : Nat) (h0 : Nat) (q : Nat → Nat) (S : MST) (a1 : Int32) (sz : Nat) (Post : MST → Prop) (h : wp_X12_makeCode S a1 Post) : Met l yX12_makeCode zw_zd_X12_makeCode ({ frames := 5, cells := 0, slots := 0, locals := 116 }) (va_Pc [.ref h0, .int a1] (fun U => U.heap.size = sz ∧ va_P D vwCl (mW cI cZ h0 q S) U.heap ∧ zE D cI cZ cP cF U ∧ va_D (fun _ => True) (mW cI cZ h0 q S))) (va_Qv (fun S' => Post S') (fun (S' : MST) t => va_P D vwCl (mW cI cZ h0 q S') t.heap ∧ va_D (va_A (mW cI cZ h0 q S) sz) (mW cI cZ h0 q S')) (va_A (mW cI cZ h0 q S) sz)) 0 0 (va_A (mW cI cZ h0 q S) sz) := by
  unfold wp_X12_makeCode at h
  refine Met.ofW (cc := cX12_makeCode) (maxL := 4) (ret := none) (by decide) rfl ?_
  intro p e s m args below meth c s₁ B hml hv
  obtain ⟨rfl, hsz, hP, hE, hD0⟩ := hv
  have hx := B.exec
  have hb := B.bytes
  have hr := B.returns
  have hts := atoms_spec (ws := zw_zd_X12_makeCode) B.pre
  have hown : s.vm.findClass RX12 = some m.cls := findClass_of_methodNamed B.named
  have hlocks := B.notSynchronized
  have hK := hE.k
  subst hsz
  have hD := hD0.self (sz := s.heap.size)
  generalize hAe : va_A (mW cI cZ h0 q S) s.heap.size = A at hD ⊢
  have hA : ∀ q : Nat, s.heap.size ≤ q → A q := fun q h => by rw [← hAe]; exact Or.inr h
  have hl := lv_entry ([.ref h0, .int a1]) (n := 4) (Nat.le_of_ble_eq_true rfl)
  rw [lg_entry_eq]
  generalize (lg_sl ([.ref h0, .int a1]) ++ List.replicate (4 - (lg_sl ([.ref h0, .int a1])).length) Slot.unset).toArray = ls at hl ⊢
  have hl : lv_has ls 4 [(0, .ref h0), (1, .int a1)] := hl
  have key : ∀ (H : Heap) (locs : List Loc), va_P D vwCl (mW cI cZ h0 q S) H → va_S A s.heap H locs → W p l e (headSpec zw_zd_X12_makeCode ({ frames := 5, cells := 0, slots := 0, locals := 116 })).room s m ([.ref h0, .int a1] : List Value).toArray below meth c H locs 0 0 (MQ below (va_Qv (fun S' => Post S') (fun (S' : MST) t => va_P D vwCl (mW cI cZ h0 q S') t.heap ∧ va_D A (mW cI cZ h0 q S')) A) ([.ref h0, .int a1] : List Value).toArray s 0 0 A) (F0 m 0 ls []) := by
    intro H locs hP hS
    refine lv_aload_n hx hb dX12_makeCode_0 rfl (lv_at hl 0 rfl) ?_
    refine lv_iload_n hx hb dX12_makeCode_1 rfl (lv_at hl 1 rfl) ?_
    have hFc := zm_free hD hS hA
    refine va_callv (va_runV (As := [.int a1]) (rest := []) ⟨hx, hb, hml, hown, hts⟩ (zd_X12_assumes l D cI cZ cP cF h0 q S a1 H.size _ h) (cwV 1 hts zg_zd_X12_makeCode_zd_X12_assumes_214 rfl rfl rfl (by decide +kernel) ⟨Nat.le_of_ble_eq_true rfl, Nat.le_of_ble_eq_true rfl⟩) ⟨zBW, va_recv hK hP (ci := 12) (q0 := 0) rfl rfl, fun U hU hW => ⟨rfl, by rw [hU], by rw [hU]; exact hP, hE.warm hW, hD.weaken (fun _ _ _ _ => trivial)⟩⟩ rfl rfl hl.1 rfl (lv_room (Nat.le_of_ble_eq_true rfl)) dX12_makeCode_2 ⟨Nat.le_of_ble_eq_true rfl, Nat.le_of_ble_eq_true rfl⟩) hS (fun q _ h => hFc q h) hFc (fun S1 t H locs ht hvm h hB hz1 hk1 hS => ?_)
    obtain ⟨hP, hD1⟩ := hB
    rw [ht] at hP
    have hD := hD1.weaken (fun k q _ hq => hFc q.1 hq)
    refine lv_aload_n hx hb dX12_makeCode_5 rfl (lv_at hl 0 rfl) ?_
    refine va_get (D := D) (ci := 12) (v := .ref (q 17)) (C := RX12) (T := TX12) (N := 52) hx hb hts (fun _ h => List.mem_cons_of_mem _ (List.mem_append_right _ h)) hown hK hP 0 rfl rfl 17 (by decide) (hts (.fieldLink RX12 56 "TemplateForgeModel" "madeCodes" "[I") (List.mem_of_getElem? (i := 18) rfl)) (fun _ h9 => h9) rfl dX12_makeCode_6 ?_
    refine lv_iload_n hx hb dX12_makeCode_9 rfl (lv_at hl 1 rfl) ?_
    refine lv_dup2_11 hx hb dX12_makeCode_10 rfl rfl ?_
    have hin_2 := h.1
    have h := h.2
    refine va_iald hx hb hK hP 16 0 rfl rfl hin_2 dX12_makeCode_11 ?_
    refine lv_iconst (v := 1) hx hb dX12_makeCode_12 (by decide) ?_
    refine lv_iadd hx hb dX12_makeCode_13 ?_
    have hin_3 := h.1
    have h := h.2
    refine va_iast hx hb hK hP hD hS 16 0 rfl rfl hin_3 dX12_makeCode_14 (fun H locs hP hD hS => ?_)
    obtain ⟨S3, eS3⟩ : ∃ z, z = ms S1 17 (upd (S1 17) (a1 : Int32).toNatClampNeg ((S1 17 (a1 : Int32).toNatClampNeg) + 1)) := ⟨_, rfl⟩
    have hP : va_P D vwCl (mW cI cZ h0 q S3) H := by rw [eS3]; exact hP
    have hD : va_D A (mW cI cZ h0 q S3) := by rw [eS3]; exact hD
    have h := h S3 eS3
    refine lv_aload_n hx hb dX12_makeCode_15 rfl (lv_at hl 0 rfl) ?_
    refine va_get (D := D) (ci := 12) (v := .ref (q 15)) (C := RX12) (T := TX12) (N := 52) hx hb hts (fun _ h => List.mem_cons_of_mem _ (List.mem_append_right _ h)) hown hK hP 0 rfl rfl 15 (by decide) (hts (.fieldLink RX12 50 "TemplateForgeModel" "hasCode" "[Z") (List.mem_of_getElem? (i := 19) rfl)) (fun _ h9 => h9) rfl dX12_makeCode_16 ?_
    refine lv_iload_n hx hb dX12_makeCode_19 rfl (lv_at hl 1 rfl) ?_
    refine lv_iconst (v := 1) hx hb dX12_makeCode_20 (by decide) ?_
    have hin_4 := h.1
    have h := h.2
    refine va_zast hx hb hK hP hD hS 14 1 rfl rfl hin_4 dX12_makeCode_21 (fun H locs hP hD hS => ?_)
    obtain ⟨S4, eS4⟩ : ∃ z, z = ms S3 15 (upd (S3 15) (a1 : Int32).toNatClampNeg (vp_nar .boolean 1)) := ⟨_, rfl⟩
    have hP : va_P D vwCl (mW cI cZ h0 q S4) H := by rw [eS4]; exact hP
    have hD : va_D A (mW cI cZ h0 q S4) := by rw [eS4]; exact hD
    have h := h S4 eS4
    refine lv_aload_n hx hb dX12_makeCode_22 rfl (lv_at hl 0 rfl) ?_
    refine lv_aload_n hx hb dX12_makeCode_23 rfl (lv_at hl 0 rfl) ?_
    refine lv_iload_n hx hb dX12_makeCode_24 rfl (lv_at hl 1 rfl) ?_
    refine vp_callSi (va_Run.run (va_runV (As := [.int a1]) (rest := [.ref h0]) ⟨hx, hb, hml, hown, hts⟩ (zd_X12_codeNow l D cI cZ cP cF h0 q S4 a1  _ h) (cwV 1 hts zg_zd_X12_makeCode_zd_X12_codeNow_217 rfl rfl rfl (by decide +kernel) ⟨Nat.le_of_ble_eq_true rfl, Nat.le_of_ble_eq_true rfl⟩) ⟨zBR, va_recv hK hP (ci := 12) (q0 := 0) rfl rfl, fun U hU hW => ⟨rfl, by rw [hU]; exact hP, hE.warm hW⟩⟩ rfl rfl hl.1 rfl (lv_room (Nat.le_of_ble_eq_true rfl)) dX12_makeCode_25 ⟨Nat.le_of_ble_eq_true rfl, Nat.le_of_ble_eq_true rfl⟩)) (fun r5 h => ?_)
    refine va_put (D := D) (ci := 12) (v := .int r5) (ty := .int) (C := RX12) (T := TX12) (N := 52) hx hb hts (fun _ h => List.mem_cons_of_mem _ (List.mem_append_right _ h)) tyX12 tyX12_ok nmX12 hown hK hP hD hS 0 rfl rfl 31 (by decide) (hts (.fieldLink RX12 181 "TemplateForgeModel" "code" "I") (List.mem_of_getElem? (i := 24) rfl)) (fun _ h9 => h9) rfl (by decide +kernel) rfl rfl (Nat.le_of_ble_eq_true rfl) dX12_makeCode_28 (fun H locs hP hD hS => ?_)
    obtain ⟨S6, eS6⟩ : ∃ z, z = ms S4 31 (fun _ => r5) := ⟨_, rfl⟩
    have hP : va_P D vwCl (mW cI cZ h0 q S6) H := by rw [eS6]; exact hP
    have hD : va_D A (mW cI cZ h0 q S6) := by rw [eS6]; exact hD
    have h := h S6 eS6
    refine lv_aload_n hx hb dX12_makeCode_31 rfl (lv_at hl 0 rfl) ?_
    refine va_get (D := D) (ci := 12) (v := .ref (q 23)) (C := RX12) (T := TX12) (N := 52) hx hb hts (fun _ h => List.mem_cons_of_mem _ (List.mem_append_right _ h)) hown hK hP 0 rfl rfl 23 (by decide) (hts (.fieldLink RX12 74 "TemplateForgeModel" "partMany" "[I") (List.mem_of_getElem? (i := 25) rfl)) (fun _ h9 => h9) rfl dX12_makeCode_32 ?_
    refine lv_aload_n hx hb dX12_makeCode_35 rfl (lv_at hl 0 rfl) ?_
    refine va_get (D := D) (ci := 12) (v := .int (S6 31 0)) (C := RX12) (T := TX12) (N := 52) hx hb hts (fun _ h => List.mem_cons_of_mem _ (List.mem_append_right _ h)) hown hK hP 0 rfl rfl 31 (by decide) (hts (.fieldLink RX12 181 "TemplateForgeModel" "code" "I") (List.mem_of_getElem? (i := 24) rfl)) (fun _ h9 => h9) rfl dX12_makeCode_36 ?_
    refine lv_iconst (v := 0) hx hb dX12_makeCode_39 (by decide) ?_
    have hin_7 := h.1
    have h := h.2
    refine va_iast hx hb hK hP hD hS 22 0 rfl rfl hin_7 dX12_makeCode_40 (fun H locs hP hD hS => ?_)
    obtain ⟨S7, eS7⟩ : ∃ z, z = ms S6 23 (upd (S6 23) (S6 31 0 : Int32).toNatClampNeg 0) := ⟨_, rfl⟩
    have hP : va_P D vwCl (mW cI cZ h0 q S7) H := by rw [eS7]; exact hP
    have hD : va_D A (mW cI cZ h0 q S7) := by rw [eS7]; exact hD
    have h := h S7 eS7
    refine lv_aload_n hx hb dX12_makeCode_41 rfl (lv_at hl 0 rfl) ?_
    refine lv_iconst (v := 0) hx hb dX12_makeCode_42 (by decide) ?_
    refine va_put (D := D) (ci := 12) (v := .int 0) (ty := .int) (C := RX12) (T := TX12) (N := 52) hx hb hts (fun _ h => List.mem_cons_of_mem _ (List.mem_append_right _ h)) tyX12 tyX12_ok nmX12 hown hK hP hD hS 0 rfl rfl 32 (by decide) (hts (.fieldLink RX12 184 "TemplateForgeModel" "owner" "I") (List.mem_of_getElem? (i := 26) rfl)) (fun _ h9 => h9) rfl (by decide +kernel) rfl rfl (Nat.le_of_ble_eq_true rfl) dX12_makeCode_43 (fun H locs hP hD hS => ?_)
    obtain ⟨S8, eS8⟩ : ∃ z, z = ms S7 32 (fun _ => 0) := ⟨_, rfl⟩
    have hP : va_P D vwCl (mW cI cZ h0 q S8) H := by rw [eS8]; exact hP
    have hD : va_D A (mW cI cZ h0 q S8) := by rw [eS8]; exact hD
    have h := h S8 eS8
    refine lv_iconst (v := 0) hx hb dX12_makeCode_46 (by decide) ?_
    refine lv_istore_n (lv' := [(2, .int 0), (0, .ref h0), (1, .int a1)]) hx hb dX12_makeCode_47 rfl hl (by decide) rfl (fun ls hl => ?_)
    have EX_48_87 : ∀ (S_87 : MST) (x87_1 : Int32) (H : Heap) (locs : List Loc) (ls : Array Slot), (wp_X12_fieldGuards S_87 x87_1 (fun S9 => wp_X12_begins S9 x87_1 (fun S10 => ∃ n_99, wl_X12_makeCode_99 (fun S_266 => Post S_266) Post n_99 S10 x87_1 0))) → va_P D vwCl (mW cI cZ h0 q S_87) H → va_D A (mW cI cZ h0 q S_87) → va_S A s.heap H locs → lv_has ls 4 [(0, .ref h0), (1, .int x87_1)] → W p l e (headSpec zw_zd_X12_makeCode ({ frames := 5, cells := 0, slots := 0, locals := 116 })).room s m ([.ref h0, .int a1] : List Value).toArray below meth c H locs 0 0 (MQ below (va_Qv (fun S' => Post S') (fun (S' : MST) t => va_P D vwCl (mW cI cZ h0 q S') t.heap ∧ va_D A (mW cI cZ h0 q S')) A) ([.ref h0, .int a1] : List Value).toArray s 0 0 A) (F0 m 87 ls []) := by
      intro S_87 x87_1 H locs ls h hP hD hS hl
      refine lv_aload_n hx hb dX12_makeCode_87 rfl (lv_at hl 0 rfl) ?_
      refine lv_iload_n hx hb dX12_makeCode_88 rfl (lv_at hl 1 rfl) ?_
      have hFc := zm_free hD hS hA
      refine va_callv (va_runV (As := [.int x87_1]) (rest := []) ⟨hx, hb, hml, hown, hts⟩ (zd_X12_fieldGuards l D cI cZ cP cF h0 q S_87 x87_1 H.size _ h) (cwV 1 hts zg_zd_X12_makeCode_zd_X12_fieldGuards_208 rfl rfl rfl (by decide +kernel) ⟨Nat.le_of_ble_eq_true rfl, Nat.le_of_ble_eq_true rfl⟩) ⟨zBW, va_recv hK hP (ci := 12) (q0 := 0) rfl rfl, fun U hU hW => ⟨rfl, by rw [hU], by rw [hU]; exact hP, hE.warm hW, hD.weaken (fun _ _ _ _ => trivial)⟩⟩ rfl rfl hl.1 rfl (lv_room (Nat.le_of_ble_eq_true rfl)) dX12_makeCode_89 ⟨Nat.le_of_ble_eq_true rfl, Nat.le_of_ble_eq_true rfl⟩) hS (fun q _ h => hFc q h) hFc (fun S9 t H locs ht hvm h hB hz1 hk1 hS => ?_)
      obtain ⟨hP, hD1⟩ := hB
      rw [ht] at hP
      have hD := hD1.weaken (fun k q _ hq => hFc q.1 hq)
      refine lv_aload_n hx hb dX12_makeCode_92 rfl (lv_at hl 0 rfl) ?_
      refine lv_iload_n hx hb dX12_makeCode_93 rfl (lv_at hl 1 rfl) ?_
      have hFc := zm_free hD hS hA
      refine va_callv (va_runV (As := [.int x87_1]) (rest := []) ⟨hx, hb, hml, hown, hts⟩ (zd_X12_begins l D cI cZ cP cF h0 q S9 x87_1 H.size _ h) (cwV 1 hts zg_zd_X12_makeCode_zd_X12_begins_220 rfl rfl rfl (by decide +kernel) ⟨Nat.le_of_ble_eq_true rfl, Nat.le_of_ble_eq_true rfl⟩) ⟨zBW, va_recv hK hP (ci := 12) (q0 := 0) rfl rfl, fun U hU hW => ⟨rfl, by rw [hU], by rw [hU]; exact hP, hE.warm hW, hD.weaken (fun _ _ _ _ => trivial)⟩⟩ rfl rfl hl.1 rfl (lv_room (Nat.le_of_ble_eq_true rfl)) dX12_makeCode_94 ⟨Nat.le_of_ble_eq_true rfl, Nat.le_of_ble_eq_true rfl⟩) hS (fun q _ h => hFc q h) hFc (fun S10 t H locs ht hvm h hB hz1 hk1 hS => ?_)
      obtain ⟨hP, hD1⟩ := hB
      rw [ht] at hP
      have hD := hD1.weaken (fun k q _ hq => hFc q.1 hq)
      refine lv_iconst (v := 0) hx hb dX12_makeCode_97 (by decide) ?_
      refine lv_istore_n (lv' := [(2, .int 0), (0, .ref h0), (1, .int x87_1)]) hx hb dX12_makeCode_98 rfl hl (by decide) rfl (fun ls hl => ?_)
      have EX_99_266 : ∀ (S_266 : MST) (H : Heap) (locs : List Loc) (ls : Array Slot), (Post S_266) → va_P D vwCl (mW cI cZ h0 q S_266) H → va_D A (mW cI cZ h0 q S_266) → va_S A s.heap H locs → lv_has ls 4 [] → W p l e (headSpec zw_zd_X12_makeCode ({ frames := 5, cells := 0, slots := 0, locals := 116 })).room s m ([.ref h0, .int a1] : List Value).toArray below meth c H locs 0 0 (MQ below (va_Qv (fun S' => Post S') (fun (S' : MST) t => va_P D vwCl (mW cI cZ h0 q S') t.heap ∧ va_D A (mW cI cZ h0 q S')) A) ([.ref h0, .int a1] : List Value).toArray s 0 0 A) (F0 m 266 ls []) := by
        intro S_266  H locs ls h hP hD hS hl
        exact W.vret hx hb hr (fun t ht hW => ⟨⟨S_266, rfl, h, by rw [ht]; exact hP, hD⟩, hS.F ht⟩) hS.2.2 dX12_makeCode_266
      have LP_99 : ∀ (n_99 : Nat), ∀ (S_99 : MST) (x99_1 : Int32) (x99_2 : Int32) (H : Heap) (locs : List Loc) (ls : Array Slot), wl_X12_makeCode_99 (fun S_266 => Post S_266) Post n_99 S_99 x99_1 x99_2 → va_P D vwCl (mW cI cZ h0 q S_99) H → va_D A (mW cI cZ h0 q S_99) → va_S A s.heap H locs → lv_has ls 4 [(0, .ref h0), (1, .int x99_1), (2, .int x99_2)] → W p l e (headSpec zw_zd_X12_makeCode ({ frames := 5, cells := 0, slots := 0, locals := 116 })).room s m ([.ref h0, .int a1] : List Value).toArray below meth c H locs 0 0 (MQ below (va_Qv (fun S' => Post S') (fun (S' : MST) t => va_P D vwCl (mW cI cZ h0 q S') t.heap ∧ va_D A (mW cI cZ h0 q S')) A) ([.ref h0, .int a1] : List Value).toArray s 0 0 A) (F0 m 99 ls []) := by
        intro n_99
        induction n_99 with
        | zero =>
          intro S_99 x99_1 x99_2 H locs ls h hP hD hS hl
          exact False.elim h
        | succ n_99 ih_99 =>
          intro S_99 x99_1 x99_2 H locs ls h hP hD hS hl
          unfold wl_X12_makeCode_99 at h
          refine lv_iload_n hx hb dX12_makeCode_99 rfl (lv_at hl 2 rfl) ?_
          refine lv_aload_n hx hb dX12_makeCode_100 rfl (lv_at hl 0 rfl) ?_
          refine va_get (D := D) (ci := 12) (v := .ref (q 3)) (C := RX12) (T := TX12) (N := 52) hx hb hts (fun _ h => List.mem_cons_of_mem _ (List.mem_append_right _ h)) hown hK hP 0 rfl rfl 3 (by decide) (hts (.fieldLink RX12 16 "TemplateForgeModel" "many" "[I") (List.mem_of_getElem? (i := 3) rfl)) (fun _ h9 => h9) rfl dX12_makeCode_101 ?_
          refine lv_iload_n hx hb dX12_makeCode_104 rfl (lv_at hl 1 rfl) ?_
          have hin_11 := h.1
          have h := h.2
          refine va_iald hx hb hK hP 3 0 rfl rfl hin_11 dX12_makeCode_105 ?_
          refine lv_icmp_ge (tgt := 266) hx hb dX12_makeCode_106 (by decide) (fun c_12 => ?_) (fun c_12 => ?_)
          · have h := h.1 c_12
            exact EX_99_266  S_99  H locs _ h hP hD hS (lv_sub hl [] rfl)
          · have h := h.2 c_12
            refine lv_aload_n hx hb dX12_makeCode_109 rfl (lv_at hl 0 rfl) ?_
            refine va_get (D := D) (ci := 12) (v := .ref (q 7)) (C := RX12) (T := TX12) (N := 52) hx hb hts (fun _ h => List.mem_cons_of_mem _ (List.mem_append_right _ h)) hown hK hP 0 rfl rfl 7 (by decide) (hts (.fieldLink RX12 29 "TemplateForgeModel" "depths" "[I") (List.mem_of_getElem? (i := 4) rfl)) (fun _ h9 => h9) rfl dX12_makeCode_110 ?_
            refine lv_bipush (v := 60) hx hb dX12_makeCode_113 (by decide) ?_
            refine lv_iload_n hx hb dX12_makeCode_115 rfl (lv_at hl 1 rfl) ?_
            refine lv_imul hx hb dX12_makeCode_116 ?_
            refine lv_iload_n hx hb dX12_makeCode_117 rfl (lv_at hl 2 rfl) ?_
            refine lv_iadd hx hb dX12_makeCode_118 ?_
            have hin_13 := h.1
            have h := h.2
            refine va_iald hx hb hK hP 7 0 rfl rfl hin_13 dX12_makeCode_119 ?_
            refine lv_if_lt (tgt := 260) hx hb dX12_makeCode_120 (by decide) (fun c_14 => ?_) (fun c_14 => ?_)
            · have h := h.1 c_14
              refine lv_iinc (v := x99_2 + 1) (lv' := [(2, .int (x99_2 + 1)), (0, .ref h0), (1, .int x99_1)]) hx hb dX12_makeCode_260 hl (k := 2) rfl rfl (by decide) rfl (fun ls hl => ?_)
              refine lv_goto (tgt := 99) hx hb dX12_makeCode_263 (by decide) ?_
              exact ih_99  S_99 x99_1 (x99_2 + 1) H locs _ h hP hD hS (lv_sub hl [1, 2, 0] rfl)
            · have h := h.2 c_14
              refine lv_aload_n hx hb dX12_makeCode_123 rfl (lv_at hl 0 rfl) ?_
              refine lv_iload_n hx hb dX12_makeCode_124 rfl (lv_at hl 1 rfl) ?_
              refine lv_iload_n hx hb dX12_makeCode_125 rfl (lv_at hl 2 rfl) ?_
              refine vp_callSi (va_Run.run (va_runV (As := [.int x99_1, .int x99_2]) (rest := []) ⟨hx, hb, hml, hown, hts⟩ (zd_X12_isTarget l D cI cZ cP cF h0 q S_99 x99_1 x99_2  _ h) (cwV 2 hts zg_zd_X12_makeCode_zd_X12_isTarget_223 rfl rfl rfl (by decide +kernel) ⟨Nat.le_of_ble_eq_true rfl, Nat.le_of_ble_eq_true rfl⟩) ⟨zBR, va_recv hK hP (ci := 12) (q0 := 0) rfl rfl, fun U hU hW => ⟨rfl, by rw [hU]; exact hP, hE.warm hW⟩⟩ rfl rfl hl.1 rfl (lv_room (Nat.le_of_ble_eq_true rfl)) dX12_makeCode_126 ⟨Nat.le_of_ble_eq_true rfl, Nat.le_of_ble_eq_true rfl⟩)) (fun r15 h => ?_)
              refine lv_if_eq (tgt := 218) hx hb dX12_makeCode_129 (by decide) (fun c_16 => ?_) (fun c_16 => ?_)
              · have h := h.1 c_16
                refine lv_aload_n hx hb dX12_makeCode_218 rfl (lv_at hl 0 rfl) ?_
                refine va_get (D := D) (ci := 12) (v := .ref (q 24)) (C := RX12) (T := TX12) (N := 52) hx hb hts (fun _ h => List.mem_cons_of_mem _ (List.mem_append_right _ h)) hown hK hP 0 rfl rfl 24 (by decide) (hts (.fieldLink RX12 77 "TemplateForgeModel" "starts" "[I") (List.mem_of_getElem? (i := 52) rfl)) (fun _ h9 => h9) rfl dX12_makeCode_219 ?_
                refine lv_bipush (v := 60) hx hb dX12_makeCode_222 (by decide) ?_
                refine lv_aload_n hx hb dX12_makeCode_224 rfl (lv_at hl 0 rfl) ?_
                refine va_get (D := D) (ci := 12) (v := .int (S_99 31 0)) (C := RX12) (T := TX12) (N := 52) hx hb hts (fun _ h => List.mem_cons_of_mem _ (List.mem_append_right _ h)) hown hK hP 0 rfl rfl 31 (by decide) (hts (.fieldLink RX12 181 "TemplateForgeModel" "code" "I") (List.mem_of_getElem? (i := 24) rfl)) (fun _ h9 => h9) rfl dX12_makeCode_225 ?_
                refine lv_imul hx hb dX12_makeCode_228 ?_
                refine lv_iload_n hx hb dX12_makeCode_229 rfl (lv_at hl 2 rfl) ?_
                refine lv_iadd hx hb dX12_makeCode_230 ?_
                refine lv_iload_n hx hb dX12_makeCode_231 rfl (lv_at hl 2 rfl) ?_
                refine lv_if_ne (tgt := 239) hx hb dX12_makeCode_232 (by decide) (fun c_17 => ?_) (fun c_17 => ?_)
                · have h := h.1 c_17
                  refine lv_aload_n hx hb dX12_makeCode_239 rfl (lv_at hl 0 rfl) ?_
                  refine va_get (D := D) (ci := 12) (v := .ref (q 23)) (C := RX12) (T := TX12) (N := 52) hx hb hts (fun _ h => List.mem_cons_of_mem _ (List.mem_append_right _ h)) hown hK hP 0 rfl rfl 23 (by decide) (hts (.fieldLink RX12 74 "TemplateForgeModel" "partMany" "[I") (List.mem_of_getElem? (i := 25) rfl)) (fun _ h9 => h9) rfl dX12_makeCode_240 ?_
                  refine lv_aload_n hx hb dX12_makeCode_243 rfl (lv_at hl 0 rfl) ?_
                  refine va_get (D := D) (ci := 12) (v := .int (S_99 31 0)) (C := RX12) (T := TX12) (N := 52) hx hb hts (fun _ h => List.mem_cons_of_mem _ (List.mem_append_right _ h)) hown hK hP 0 rfl rfl 31 (by decide) (hts (.fieldLink RX12 181 "TemplateForgeModel" "code" "I") (List.mem_of_getElem? (i := 24) rfl)) (fun _ h9 => h9) rfl dX12_makeCode_244 ?_
                  have hin_18 := h.1
                  have h := h.2
                  refine va_iald hx hb hK hP 22 0 rfl rfl hin_18 dX12_makeCode_247 ?_
                  have hin_19 := h.1
                  have h := h.2
                  refine va_iast hx hb hK hP hD hS 23 0 rfl rfl hin_19 dX12_makeCode_248 (fun H locs hP hD hS => ?_)
                  obtain ⟨S19, eS19⟩ : ∃ z, z = ms S_99 24 (upd (S_99 24) ((60 * (S_99 31 0)) + x99_2 : Int32).toNatClampNeg (S_99 23 (S_99 31 0 : Int32).toNatClampNeg)) := ⟨_, rfl⟩
                  have hP : va_P D vwCl (mW cI cZ h0 q S19) H := by rw [eS19]; exact hP
                  have hD : va_D A (mW cI cZ h0 q S19) := by rw [eS19]; exact hD
                  have h := h S19 eS19
                  refine lv_aload_n hx hb dX12_makeCode_249 rfl (lv_at hl 0 rfl) ?_
                  refine lv_iload_n hx hb dX12_makeCode_250 rfl (lv_at hl 2 rfl) ?_
                  refine va_put (D := D) (ci := 12) (v := .int x99_2) (ty := .int) (C := RX12) (T := TX12) (N := 52) hx hb hts (fun _ h => List.mem_cons_of_mem _ (List.mem_append_right _ h)) tyX12 tyX12_ok nmX12 hown hK hP hD hS 0 rfl rfl 32 (by decide) (hts (.fieldLink RX12 184 "TemplateForgeModel" "owner" "I") (List.mem_of_getElem? (i := 26) rfl)) (fun _ h9 => h9) rfl (by decide +kernel) rfl rfl (Nat.le_of_ble_eq_true rfl) dX12_makeCode_251 (fun H locs hP hD hS => ?_)
                  obtain ⟨S20, eS20⟩ : ∃ z, z = ms S19 32 (fun _ => x99_2) := ⟨_, rfl⟩
                  have hP : va_P D vwCl (mW cI cZ h0 q S20) H := by rw [eS20]; exact hP
                  have hD : va_D A (mW cI cZ h0 q S20) := by rw [eS20]; exact hD
                  have h := h S20 eS20
                  refine lv_aload_n hx hb dX12_makeCode_254 rfl (lv_at hl 0 rfl) ?_
                  refine lv_iload_n hx hb dX12_makeCode_255 rfl (lv_at hl 1 rfl) ?_
                  refine lv_iload_n hx hb dX12_makeCode_256 rfl (lv_at hl 2 rfl) ?_
                  have hFc := zm_free hD hS hA
                  refine va_callv (va_runV (As := [.int x99_1, .int x99_2]) (rest := []) ⟨hx, hb, hml, hown, hts⟩ (zd_X12_make l D cI cZ cP cF h0 q S20 x99_1 x99_2 H.size _ h) (cwV 2 hts zg_zd_X12_makeCode_zd_X12_make_227 rfl rfl rfl (by decide +kernel) ⟨Nat.le_of_ble_eq_true rfl, Nat.le_of_ble_eq_true rfl⟩) ⟨zBW, va_recv hK hP (ci := 12) (q0 := 0) rfl rfl, fun U hU hW => ⟨rfl, by rw [hU], by rw [hU]; exact hP, hE.warm hW, hD.weaken (fun _ _ _ _ => trivial)⟩⟩ rfl rfl hl.1 rfl (lv_room (Nat.le_of_ble_eq_true rfl)) dX12_makeCode_257 ⟨Nat.le_of_ble_eq_true rfl, Nat.le_of_ble_eq_true rfl⟩) hS (fun q _ h => hFc q h) hFc (fun S21 t H locs ht hvm h hB hz1 hk1 hS => ?_)
                  obtain ⟨hP, hD1⟩ := hB
                  rw [ht] at hP
                  have hD := hD1.weaken (fun k q _ hq => hFc q.1 hq)
                  refine lv_iinc (v := x99_2 + 1) (lv' := [(2, .int (x99_2 + 1)), (0, .ref h0), (1, .int x99_1)]) hx hb dX12_makeCode_260 hl (k := 2) rfl rfl (by decide) rfl (fun ls hl => ?_)
                  refine lv_goto (tgt := 99) hx hb dX12_makeCode_263 (by decide) ?_
                  exact ih_99  S21 x99_1 (x99_2 + 1) H locs _ h hP hD hS (lv_sub hl [1, 2, 0] rfl)
                · have h := h.2 c_17
                  refine lv_iconst (v := 0) hx hb dX12_makeCode_235 (by decide) ?_
                  refine lv_goto (tgt := 248) hx hb dX12_makeCode_236 (by decide) ?_
                  have hin_22 := h.1
                  have h := h.2
                  refine va_iast hx hb hK hP hD hS 23 0 rfl rfl hin_22 dX12_makeCode_248 (fun H locs hP hD hS => ?_)
                  obtain ⟨S22, eS22⟩ : ∃ z, z = ms S_99 24 (upd (S_99 24) ((60 * (S_99 31 0)) + x99_2 : Int32).toNatClampNeg 0) := ⟨_, rfl⟩
                  have hP : va_P D vwCl (mW cI cZ h0 q S22) H := by rw [eS22]; exact hP
                  have hD : va_D A (mW cI cZ h0 q S22) := by rw [eS22]; exact hD
                  have h := h S22 eS22
                  refine lv_aload_n hx hb dX12_makeCode_249 rfl (lv_at hl 0 rfl) ?_
                  refine lv_iload_n hx hb dX12_makeCode_250 rfl (lv_at hl 2 rfl) ?_
                  refine va_put (D := D) (ci := 12) (v := .int x99_2) (ty := .int) (C := RX12) (T := TX12) (N := 52) hx hb hts (fun _ h => List.mem_cons_of_mem _ (List.mem_append_right _ h)) tyX12 tyX12_ok nmX12 hown hK hP hD hS 0 rfl rfl 32 (by decide) (hts (.fieldLink RX12 184 "TemplateForgeModel" "owner" "I") (List.mem_of_getElem? (i := 26) rfl)) (fun _ h9 => h9) rfl (by decide +kernel) rfl rfl (Nat.le_of_ble_eq_true rfl) dX12_makeCode_251 (fun H locs hP hD hS => ?_)
                  obtain ⟨S23, eS23⟩ : ∃ z, z = ms S22 32 (fun _ => x99_2) := ⟨_, rfl⟩
                  have hP : va_P D vwCl (mW cI cZ h0 q S23) H := by rw [eS23]; exact hP
                  have hD : va_D A (mW cI cZ h0 q S23) := by rw [eS23]; exact hD
                  have h := h S23 eS23
                  refine lv_aload_n hx hb dX12_makeCode_254 rfl (lv_at hl 0 rfl) ?_
                  refine lv_iload_n hx hb dX12_makeCode_255 rfl (lv_at hl 1 rfl) ?_
                  refine lv_iload_n hx hb dX12_makeCode_256 rfl (lv_at hl 2 rfl) ?_
                  have hFc := zm_free hD hS hA
                  refine va_callv (va_runV (As := [.int x99_1, .int x99_2]) (rest := []) ⟨hx, hb, hml, hown, hts⟩ (zd_X12_make l D cI cZ cP cF h0 q S23 x99_1 x99_2 H.size _ h) (cwV 2 hts zg_zd_X12_makeCode_zd_X12_make_227 rfl rfl rfl (by decide +kernel) ⟨Nat.le_of_ble_eq_true rfl, Nat.le_of_ble_eq_true rfl⟩) ⟨zBW, va_recv hK hP (ci := 12) (q0 := 0) rfl rfl, fun U hU hW => ⟨rfl, by rw [hU], by rw [hU]; exact hP, hE.warm hW, hD.weaken (fun _ _ _ _ => trivial)⟩⟩ rfl rfl hl.1 rfl (lv_room (Nat.le_of_ble_eq_true rfl)) dX12_makeCode_257 ⟨Nat.le_of_ble_eq_true rfl, Nat.le_of_ble_eq_true rfl⟩) hS (fun q _ h => hFc q h) hFc (fun S24 t H locs ht hvm h hB hz1 hk1 hS => ?_)
                  obtain ⟨hP, hD1⟩ := hB
                  rw [ht] at hP
                  have hD := hD1.weaken (fun k q _ hq => hFc q.1 hq)
                  refine lv_iinc (v := x99_2 + 1) (lv' := [(2, .int (x99_2 + 1)), (0, .ref h0), (1, .int x99_1)]) hx hb dX12_makeCode_260 hl (k := 2) rfl rfl (by decide) rfl (fun ls hl => ?_)
                  refine lv_goto (tgt := 99) hx hb dX12_makeCode_263 (by decide) ?_
                  exact ih_99  S24 x99_1 (x99_2 + 1) H locs _ h hP hD hS (lv_sub hl [1, 2, 0] rfl)
              · have h := h.2 c_16
                refine lv_iload_n hx hb dX12_makeCode_132 rfl (lv_at hl 2 rfl) ?_
                refine lv_if_le (tgt := 192) hx hb dX12_makeCode_133 (by decide) (fun c_25 => ?_) (fun c_25 => ?_)
                · have h := h.1 c_25
                  refine lv_iconst (v := 0) hx hb dX12_makeCode_192 (by decide) ?_
                  refine lv_istore_n (lv' := [(3, .int 0), (0, .ref h0), (1, .int x99_1), (2, .int x99_2)]) hx hb dX12_makeCode_193 rfl hl (by decide) rfl (fun ls hl => ?_)
                  refine lv_iload_n hx hb dX12_makeCode_194 rfl (lv_at hl 0 rfl) ?_
                  refine lv_if_eq (tgt := 213) hx hb dX12_makeCode_195 (by decide) (fun _ => ?_) (fun c => absurd (by decide) c)
                  refine lv_aload_n hx hb dX12_makeCode_213 rfl (lv_at hl 1 rfl) ?_
                  refine lv_iload_n hx hb dX12_makeCode_214 rfl (lv_at hl 2 rfl) ?_
                  have hFc := zm_free hD hS hA
                  refine va_callv (va_runV (As := [.int x99_1]) (rest := []) ⟨hx, hb, hml, hown, hts⟩ (zd_X12_begins l D cI cZ cP cF h0 q S_99 x99_1 H.size _ h) (cwV 1 hts zg_zd_X12_makeCode_zd_X12_begins_220 rfl rfl rfl (by decide +kernel) ⟨Nat.le_of_ble_eq_true rfl, Nat.le_of_ble_eq_true rfl⟩) ⟨zBW, va_recv hK hP (ci := 12) (q0 := 0) rfl rfl, fun U hU hW => ⟨rfl, by rw [hU], by rw [hU]; exact hP, hE.warm hW, hD.weaken (fun _ _ _ _ => trivial)⟩⟩ rfl rfl hl.1 rfl (lv_room (Nat.le_of_ble_eq_true rfl)) dX12_makeCode_215 ⟨Nat.le_of_ble_eq_true rfl, Nat.le_of_ble_eq_true rfl⟩) hS (fun q _ h => hFc q h) hFc (fun S26 t H locs ht hvm h hB hz1 hk1 hS => ?_)
                  obtain ⟨hP, hD1⟩ := hB
                  rw [ht] at hP
                  have hD := hD1.weaken (fun k q _ hq => hFc q.1 hq)
                  refine lv_aload_n hx hb dX12_makeCode_218 rfl (lv_at hl 1 rfl) ?_
                  refine va_get (D := D) (ci := 12) (v := .ref (q 24)) (C := RX12) (T := TX12) (N := 52) hx hb hts (fun _ h => List.mem_cons_of_mem _ (List.mem_append_right _ h)) hown hK hP 0 rfl rfl 24 (by decide) (hts (.fieldLink RX12 77 "TemplateForgeModel" "starts" "[I") (List.mem_of_getElem? (i := 52) rfl)) (fun _ h9 => h9) rfl dX12_makeCode_219 ?_
                  refine lv_bipush (v := 60) hx hb dX12_makeCode_222 (by decide) ?_
                  refine lv_aload_n hx hb dX12_makeCode_224 rfl (lv_at hl 1 rfl) ?_
                  refine va_get (D := D) (ci := 12) (v := .int (S26 31 0)) (C := RX12) (T := TX12) (N := 52) hx hb hts (fun _ h => List.mem_cons_of_mem _ (List.mem_append_right _ h)) hown hK hP 0 rfl rfl 31 (by decide) (hts (.fieldLink RX12 181 "TemplateForgeModel" "code" "I") (List.mem_of_getElem? (i := 24) rfl)) (fun _ h9 => h9) rfl dX12_makeCode_225 ?_
                  refine lv_imul hx hb dX12_makeCode_228 ?_
                  refine lv_iload_n hx hb dX12_makeCode_229 rfl (lv_at hl 3 rfl) ?_
                  refine lv_iadd hx hb dX12_makeCode_230 ?_
                  refine lv_iload_n hx hb dX12_makeCode_231 rfl (lv_at hl 3 rfl) ?_
                  refine lv_if_ne (tgt := 239) hx hb dX12_makeCode_232 (by decide) (fun c_27 => ?_) (fun c_27 => ?_)
                  · have h := h.1 c_27
                    refine lv_aload_n hx hb dX12_makeCode_239 rfl (lv_at hl 1 rfl) ?_
                    refine va_get (D := D) (ci := 12) (v := .ref (q 23)) (C := RX12) (T := TX12) (N := 52) hx hb hts (fun _ h => List.mem_cons_of_mem _ (List.mem_append_right _ h)) hown hK hP 0 rfl rfl 23 (by decide) (hts (.fieldLink RX12 74 "TemplateForgeModel" "partMany" "[I") (List.mem_of_getElem? (i := 25) rfl)) (fun _ h9 => h9) rfl dX12_makeCode_240 ?_
                    refine lv_aload_n hx hb dX12_makeCode_243 rfl (lv_at hl 1 rfl) ?_
                    refine va_get (D := D) (ci := 12) (v := .int (S26 31 0)) (C := RX12) (T := TX12) (N := 52) hx hb hts (fun _ h => List.mem_cons_of_mem _ (List.mem_append_right _ h)) hown hK hP 0 rfl rfl 31 (by decide) (hts (.fieldLink RX12 181 "TemplateForgeModel" "code" "I") (List.mem_of_getElem? (i := 24) rfl)) (fun _ h9 => h9) rfl dX12_makeCode_244 ?_
                    have hin_28 := h.1
                    have h := h.2
                    refine va_iald hx hb hK hP 22 0 rfl rfl hin_28 dX12_makeCode_247 ?_
                    have hin_29 := h.1
                    have h := h.2
                    refine va_iast hx hb hK hP hD hS 23 0 rfl rfl hin_29 dX12_makeCode_248 (fun H locs hP hD hS => ?_)
                    obtain ⟨S29, eS29⟩ : ∃ z, z = ms S26 24 (upd (S26 24) ((60 * (S26 31 0)) + x99_2 : Int32).toNatClampNeg (S26 23 (S26 31 0 : Int32).toNatClampNeg)) := ⟨_, rfl⟩
                    have hP : va_P D vwCl (mW cI cZ h0 q S29) H := by rw [eS29]; exact hP
                    have hD : va_D A (mW cI cZ h0 q S29) := by rw [eS29]; exact hD
                    have h := h S29 eS29
                    refine lv_aload_n hx hb dX12_makeCode_249 rfl (lv_at hl 1 rfl) ?_
                    refine lv_iload_n hx hb dX12_makeCode_250 rfl (lv_at hl 3 rfl) ?_
                    refine va_put (D := D) (ci := 12) (v := .int x99_2) (ty := .int) (C := RX12) (T := TX12) (N := 52) hx hb hts (fun _ h => List.mem_cons_of_mem _ (List.mem_append_right _ h)) tyX12 tyX12_ok nmX12 hown hK hP hD hS 0 rfl rfl 32 (by decide) (hts (.fieldLink RX12 184 "TemplateForgeModel" "owner" "I") (List.mem_of_getElem? (i := 26) rfl)) (fun _ h9 => h9) rfl (by decide +kernel) rfl rfl (Nat.le_of_ble_eq_true rfl) dX12_makeCode_251 (fun H locs hP hD hS => ?_)
                    obtain ⟨S30, eS30⟩ : ∃ z, z = ms S29 32 (fun _ => x99_2) := ⟨_, rfl⟩
                    have hP : va_P D vwCl (mW cI cZ h0 q S30) H := by rw [eS30]; exact hP
                    have hD : va_D A (mW cI cZ h0 q S30) := by rw [eS30]; exact hD
                    have h := h S30 eS30
                    refine lv_aload_n hx hb dX12_makeCode_254 rfl (lv_at hl 1 rfl) ?_
                    refine lv_iload_n hx hb dX12_makeCode_255 rfl (lv_at hl 2 rfl) ?_
                    refine lv_iload_n hx hb dX12_makeCode_256 rfl (lv_at hl 3 rfl) ?_
                    have hFc := zm_free hD hS hA
                    refine va_callv (va_runV (As := [.int x99_1, .int x99_2]) (rest := []) ⟨hx, hb, hml, hown, hts⟩ (zd_X12_make l D cI cZ cP cF h0 q S30 x99_1 x99_2 H.size _ h) (cwV 2 hts zg_zd_X12_makeCode_zd_X12_make_227 rfl rfl rfl (by decide +kernel) ⟨Nat.le_of_ble_eq_true rfl, Nat.le_of_ble_eq_true rfl⟩) ⟨zBW, va_recv hK hP (ci := 12) (q0 := 0) rfl rfl, fun U hU hW => ⟨rfl, by rw [hU], by rw [hU]; exact hP, hE.warm hW, hD.weaken (fun _ _ _ _ => trivial)⟩⟩ rfl rfl hl.1 rfl (lv_room (Nat.le_of_ble_eq_true rfl)) dX12_makeCode_257 ⟨Nat.le_of_ble_eq_true rfl, Nat.le_of_ble_eq_true rfl⟩) hS (fun q _ h => hFc q h) hFc (fun S31 t H locs ht hvm h hB hz1 hk1 hS => ?_)
                    obtain ⟨hP, hD1⟩ := hB
                    rw [ht] at hP
                    have hD := hD1.weaken (fun k q _ hq => hFc q.1 hq)
                    refine lv_iinc (v := x99_2 + 1) (lv' := [(2, .int (x99_2 + 1)), (3, .int 0), (0, .ref h0), (1, .int x99_1)]) hx hb dX12_makeCode_260 hl (k := 3) rfl rfl (by decide) rfl (fun ls hl => ?_)
                    refine lv_goto (tgt := 99) hx hb dX12_makeCode_263 (by decide) ?_
                    exact ih_99  S31 x99_1 (x99_2 + 1) H locs _ h hP hD hS (lv_sub hl [2, 3, 0] rfl)
                  · have h := h.2 c_27
                    refine lv_iconst (v := 0) hx hb dX12_makeCode_235 (by decide) ?_
                    refine lv_goto (tgt := 248) hx hb dX12_makeCode_236 (by decide) ?_
                    have hin_32 := h.1
                    have h := h.2
                    refine va_iast hx hb hK hP hD hS 23 0 rfl rfl hin_32 dX12_makeCode_248 (fun H locs hP hD hS => ?_)
                    obtain ⟨S32, eS32⟩ : ∃ z, z = ms S26 24 (upd (S26 24) ((60 * (S26 31 0)) + x99_2 : Int32).toNatClampNeg 0) := ⟨_, rfl⟩
                    have hP : va_P D vwCl (mW cI cZ h0 q S32) H := by rw [eS32]; exact hP
                    have hD : va_D A (mW cI cZ h0 q S32) := by rw [eS32]; exact hD
                    have h := h S32 eS32
                    refine lv_aload_n hx hb dX12_makeCode_249 rfl (lv_at hl 1 rfl) ?_
                    refine lv_iload_n hx hb dX12_makeCode_250 rfl (lv_at hl 3 rfl) ?_
                    refine va_put (D := D) (ci := 12) (v := .int x99_2) (ty := .int) (C := RX12) (T := TX12) (N := 52) hx hb hts (fun _ h => List.mem_cons_of_mem _ (List.mem_append_right _ h)) tyX12 tyX12_ok nmX12 hown hK hP hD hS 0 rfl rfl 32 (by decide) (hts (.fieldLink RX12 184 "TemplateForgeModel" "owner" "I") (List.mem_of_getElem? (i := 26) rfl)) (fun _ h9 => h9) rfl (by decide +kernel) rfl rfl (Nat.le_of_ble_eq_true rfl) dX12_makeCode_251 (fun H locs hP hD hS => ?_)
                    obtain ⟨S33, eS33⟩ : ∃ z, z = ms S32 32 (fun _ => x99_2) := ⟨_, rfl⟩
                    have hP : va_P D vwCl (mW cI cZ h0 q S33) H := by rw [eS33]; exact hP
                    have hD : va_D A (mW cI cZ h0 q S33) := by rw [eS33]; exact hD
                    have h := h S33 eS33
                    refine lv_aload_n hx hb dX12_makeCode_254 rfl (lv_at hl 1 rfl) ?_
                    refine lv_iload_n hx hb dX12_makeCode_255 rfl (lv_at hl 2 rfl) ?_
                    refine lv_iload_n hx hb dX12_makeCode_256 rfl (lv_at hl 3 rfl) ?_
                    have hFc := zm_free hD hS hA
                    refine va_callv (va_runV (As := [.int x99_1, .int x99_2]) (rest := []) ⟨hx, hb, hml, hown, hts⟩ (zd_X12_make l D cI cZ cP cF h0 q S33 x99_1 x99_2 H.size _ h) (cwV 2 hts zg_zd_X12_makeCode_zd_X12_make_227 rfl rfl rfl (by decide +kernel) ⟨Nat.le_of_ble_eq_true rfl, Nat.le_of_ble_eq_true rfl⟩) ⟨zBW, va_recv hK hP (ci := 12) (q0 := 0) rfl rfl, fun U hU hW => ⟨rfl, by rw [hU], by rw [hU]; exact hP, hE.warm hW, hD.weaken (fun _ _ _ _ => trivial)⟩⟩ rfl rfl hl.1 rfl (lv_room (Nat.le_of_ble_eq_true rfl)) dX12_makeCode_257 ⟨Nat.le_of_ble_eq_true rfl, Nat.le_of_ble_eq_true rfl⟩) hS (fun q _ h => hFc q h) hFc (fun S34 t H locs ht hvm h hB hz1 hk1 hS => ?_)
                    obtain ⟨hP, hD1⟩ := hB
                    rw [ht] at hP
                    have hD := hD1.weaken (fun k q _ hq => hFc q.1 hq)
                    refine lv_iinc (v := x99_2 + 1) (lv' := [(2, .int (x99_2 + 1)), (3, .int 0), (0, .ref h0), (1, .int x99_1)]) hx hb dX12_makeCode_260 hl (k := 3) rfl rfl (by decide) rfl (fun ls hl => ?_)
                    refine lv_goto (tgt := 99) hx hb dX12_makeCode_263 (by decide) ?_
                    exact ih_99  S34 x99_1 (x99_2 + 1) H locs _ h hP hD hS (lv_sub hl [2, 3, 0] rfl)
                · have h := h.2 c_25
                  refine lv_aload_n hx hb dX12_makeCode_136 rfl (lv_at hl 0 rfl) ?_
                  refine va_get (D := D) (ci := 12) (v := .ref (q 7)) (C := RX12) (T := TX12) (N := 52) hx hb hts (fun _ h => List.mem_cons_of_mem _ (List.mem_append_right _ h)) hown hK hP 0 rfl rfl 7 (by decide) (hts (.fieldLink RX12 29 "TemplateForgeModel" "depths" "[I") (List.mem_of_getElem? (i := 4) rfl)) (fun _ h9 => h9) rfl dX12_makeCode_137 ?_
                  refine lv_bipush (v := 60) hx hb dX12_makeCode_140 (by decide) ?_
                  refine lv_iload_n hx hb dX12_makeCode_142 rfl (lv_at hl 1 rfl) ?_
                  refine lv_imul hx hb dX12_makeCode_143 ?_
                  refine lv_iload_n hx hb dX12_makeCode_144 rfl (lv_at hl 2 rfl) ?_
                  refine lv_iadd hx hb dX12_makeCode_145 ?_
                  refine lv_iconst (v := 1) hx hb dX12_makeCode_146 (by decide) ?_
                  refine lv_isub hx hb dX12_makeCode_147 ?_
                  have hin_35 := h.1
                  have h := h.2
                  refine va_iald hx hb hK hP 7 0 rfl rfl hin_35 dX12_makeCode_148 ?_
                  refine lv_if_lt (tgt := 192) hx hb dX12_makeCode_149 (by decide) (fun c_36 => ?_) (fun c_36 => ?_)
                  · have h := h.1 c_36
                    refine lv_iconst (v := 0) hx hb dX12_makeCode_192 (by decide) ?_
                    refine lv_istore_n (lv' := [(3, .int 0), (0, .ref h0), (1, .int x99_1), (2, .int x99_2)]) hx hb dX12_makeCode_193 rfl hl (by decide) rfl (fun ls hl => ?_)
                    refine lv_iload_n hx hb dX12_makeCode_194 rfl (lv_at hl 0 rfl) ?_
                    refine lv_if_eq (tgt := 213) hx hb dX12_makeCode_195 (by decide) (fun _ => ?_) (fun c => absurd (by decide) c)
                    refine lv_aload_n hx hb dX12_makeCode_213 rfl (lv_at hl 1 rfl) ?_
                    refine lv_iload_n hx hb dX12_makeCode_214 rfl (lv_at hl 2 rfl) ?_
                    have hFc := zm_free hD hS hA
                    refine va_callv (va_runV (As := [.int x99_1]) (rest := []) ⟨hx, hb, hml, hown, hts⟩ (zd_X12_begins l D cI cZ cP cF h0 q S_99 x99_1 H.size _ h) (cwV 1 hts zg_zd_X12_makeCode_zd_X12_begins_220 rfl rfl rfl (by decide +kernel) ⟨Nat.le_of_ble_eq_true rfl, Nat.le_of_ble_eq_true rfl⟩) ⟨zBW, va_recv hK hP (ci := 12) (q0 := 0) rfl rfl, fun U hU hW => ⟨rfl, by rw [hU], by rw [hU]; exact hP, hE.warm hW, hD.weaken (fun _ _ _ _ => trivial)⟩⟩ rfl rfl hl.1 rfl (lv_room (Nat.le_of_ble_eq_true rfl)) dX12_makeCode_215 ⟨Nat.le_of_ble_eq_true rfl, Nat.le_of_ble_eq_true rfl⟩) hS (fun q _ h => hFc q h) hFc (fun S37 t H locs ht hvm h hB hz1 hk1 hS => ?_)
                    obtain ⟨hP, hD1⟩ := hB
                    rw [ht] at hP
                    have hD := hD1.weaken (fun k q _ hq => hFc q.1 hq)
                    refine lv_aload_n hx hb dX12_makeCode_218 rfl (lv_at hl 1 rfl) ?_
                    refine va_get (D := D) (ci := 12) (v := .ref (q 24)) (C := RX12) (T := TX12) (N := 52) hx hb hts (fun _ h => List.mem_cons_of_mem _ (List.mem_append_right _ h)) hown hK hP 0 rfl rfl 24 (by decide) (hts (.fieldLink RX12 77 "TemplateForgeModel" "starts" "[I") (List.mem_of_getElem? (i := 52) rfl)) (fun _ h9 => h9) rfl dX12_makeCode_219 ?_
                    refine lv_bipush (v := 60) hx hb dX12_makeCode_222 (by decide) ?_
                    refine lv_aload_n hx hb dX12_makeCode_224 rfl (lv_at hl 1 rfl) ?_
                    refine va_get (D := D) (ci := 12) (v := .int (S37 31 0)) (C := RX12) (T := TX12) (N := 52) hx hb hts (fun _ h => List.mem_cons_of_mem _ (List.mem_append_right _ h)) hown hK hP 0 rfl rfl 31 (by decide) (hts (.fieldLink RX12 181 "TemplateForgeModel" "code" "I") (List.mem_of_getElem? (i := 24) rfl)) (fun _ h9 => h9) rfl dX12_makeCode_225 ?_
                    refine lv_imul hx hb dX12_makeCode_228 ?_
                    refine lv_iload_n hx hb dX12_makeCode_229 rfl (lv_at hl 3 rfl) ?_
                    refine lv_iadd hx hb dX12_makeCode_230 ?_
                    refine lv_iload_n hx hb dX12_makeCode_231 rfl (lv_at hl 3 rfl) ?_
                    refine lv_if_ne (tgt := 239) hx hb dX12_makeCode_232 (by decide) (fun c_38 => ?_) (fun c_38 => ?_)
                    · have h := h.1 c_38
                      refine lv_aload_n hx hb dX12_makeCode_239 rfl (lv_at hl 1 rfl) ?_
                      refine va_get (D := D) (ci := 12) (v := .ref (q 23)) (C := RX12) (T := TX12) (N := 52) hx hb hts (fun _ h => List.mem_cons_of_mem _ (List.mem_append_right _ h)) hown hK hP 0 rfl rfl 23 (by decide) (hts (.fieldLink RX12 74 "TemplateForgeModel" "partMany" "[I") (List.mem_of_getElem? (i := 25) rfl)) (fun _ h9 => h9) rfl dX12_makeCode_240 ?_
                      refine lv_aload_n hx hb dX12_makeCode_243 rfl (lv_at hl 1 rfl) ?_
                      refine va_get (D := D) (ci := 12) (v := .int (S37 31 0)) (C := RX12) (T := TX12) (N := 52) hx hb hts (fun _ h => List.mem_cons_of_mem _ (List.mem_append_right _ h)) hown hK hP 0 rfl rfl 31 (by decide) (hts (.fieldLink RX12 181 "TemplateForgeModel" "code" "I") (List.mem_of_getElem? (i := 24) rfl)) (fun _ h9 => h9) rfl dX12_makeCode_244 ?_
                      have hin_39 := h.1
                      have h := h.2
                      refine va_iald hx hb hK hP 22 0 rfl rfl hin_39 dX12_makeCode_247 ?_
                      have hin_40 := h.1
                      have h := h.2
                      refine va_iast hx hb hK hP hD hS 23 0 rfl rfl hin_40 dX12_makeCode_248 (fun H locs hP hD hS => ?_)
                      obtain ⟨S40, eS40⟩ : ∃ z, z = ms S37 24 (upd (S37 24) ((60 * (S37 31 0)) + x99_2 : Int32).toNatClampNeg (S37 23 (S37 31 0 : Int32).toNatClampNeg)) := ⟨_, rfl⟩
                      have hP : va_P D vwCl (mW cI cZ h0 q S40) H := by rw [eS40]; exact hP
                      have hD : va_D A (mW cI cZ h0 q S40) := by rw [eS40]; exact hD
                      have h := h S40 eS40
                      refine lv_aload_n hx hb dX12_makeCode_249 rfl (lv_at hl 1 rfl) ?_
                      refine lv_iload_n hx hb dX12_makeCode_250 rfl (lv_at hl 3 rfl) ?_
                      refine va_put (D := D) (ci := 12) (v := .int x99_2) (ty := .int) (C := RX12) (T := TX12) (N := 52) hx hb hts (fun _ h => List.mem_cons_of_mem _ (List.mem_append_right _ h)) tyX12 tyX12_ok nmX12 hown hK hP hD hS 0 rfl rfl 32 (by decide) (hts (.fieldLink RX12 184 "TemplateForgeModel" "owner" "I") (List.mem_of_getElem? (i := 26) rfl)) (fun _ h9 => h9) rfl (by decide +kernel) rfl rfl (Nat.le_of_ble_eq_true rfl) dX12_makeCode_251 (fun H locs hP hD hS => ?_)
                      obtain ⟨S41, eS41⟩ : ∃ z, z = ms S40 32 (fun _ => x99_2) := ⟨_, rfl⟩
                      have hP : va_P D vwCl (mW cI cZ h0 q S41) H := by rw [eS41]; exact hP
                      have hD : va_D A (mW cI cZ h0 q S41) := by rw [eS41]; exact hD
                      have h := h S41 eS41
                      refine lv_aload_n hx hb dX12_makeCode_254 rfl (lv_at hl 1 rfl) ?_
                      refine lv_iload_n hx hb dX12_makeCode_255 rfl (lv_at hl 2 rfl) ?_
                      refine lv_iload_n hx hb dX12_makeCode_256 rfl (lv_at hl 3 rfl) ?_
                      have hFc := zm_free hD hS hA
                      refine va_callv (va_runV (As := [.int x99_1, .int x99_2]) (rest := []) ⟨hx, hb, hml, hown, hts⟩ (zd_X12_make l D cI cZ cP cF h0 q S41 x99_1 x99_2 H.size _ h) (cwV 2 hts zg_zd_X12_makeCode_zd_X12_make_227 rfl rfl rfl (by decide +kernel) ⟨Nat.le_of_ble_eq_true rfl, Nat.le_of_ble_eq_true rfl⟩) ⟨zBW, va_recv hK hP (ci := 12) (q0 := 0) rfl rfl, fun U hU hW => ⟨rfl, by rw [hU], by rw [hU]; exact hP, hE.warm hW, hD.weaken (fun _ _ _ _ => trivial)⟩⟩ rfl rfl hl.1 rfl (lv_room (Nat.le_of_ble_eq_true rfl)) dX12_makeCode_257 ⟨Nat.le_of_ble_eq_true rfl, Nat.le_of_ble_eq_true rfl⟩) hS (fun q _ h => hFc q h) hFc (fun S42 t H locs ht hvm h hB hz1 hk1 hS => ?_)
                      obtain ⟨hP, hD1⟩ := hB
                      rw [ht] at hP
                      have hD := hD1.weaken (fun k q _ hq => hFc q.1 hq)
                      refine lv_iinc (v := x99_2 + 1) (lv' := [(2, .int (x99_2 + 1)), (3, .int 0), (0, .ref h0), (1, .int x99_1)]) hx hb dX12_makeCode_260 hl (k := 3) rfl rfl (by decide) rfl (fun ls hl => ?_)
                      refine lv_goto (tgt := 99) hx hb dX12_makeCode_263 (by decide) ?_
                      exact ih_99  S42 x99_1 (x99_2 + 1) H locs _ h hP hD hS (lv_sub hl [2, 3, 0] rfl)
                    · have h := h.2 c_38
                      refine lv_iconst (v := 0) hx hb dX12_makeCode_235 (by decide) ?_
                      refine lv_goto (tgt := 248) hx hb dX12_makeCode_236 (by decide) ?_
                      have hin_43 := h.1
                      have h := h.2
                      refine va_iast hx hb hK hP hD hS 23 0 rfl rfl hin_43 dX12_makeCode_248 (fun H locs hP hD hS => ?_)
                      obtain ⟨S43, eS43⟩ : ∃ z, z = ms S37 24 (upd (S37 24) ((60 * (S37 31 0)) + x99_2 : Int32).toNatClampNeg 0) := ⟨_, rfl⟩
                      have hP : va_P D vwCl (mW cI cZ h0 q S43) H := by rw [eS43]; exact hP
                      have hD : va_D A (mW cI cZ h0 q S43) := by rw [eS43]; exact hD
                      have h := h S43 eS43
                      refine lv_aload_n hx hb dX12_makeCode_249 rfl (lv_at hl 1 rfl) ?_
                      refine lv_iload_n hx hb dX12_makeCode_250 rfl (lv_at hl 3 rfl) ?_
                      refine va_put (D := D) (ci := 12) (v := .int x99_2) (ty := .int) (C := RX12) (T := TX12) (N := 52) hx hb hts (fun _ h => List.mem_cons_of_mem _ (List.mem_append_right _ h)) tyX12 tyX12_ok nmX12 hown hK hP hD hS 0 rfl rfl 32 (by decide) (hts (.fieldLink RX12 184 "TemplateForgeModel" "owner" "I") (List.mem_of_getElem? (i := 26) rfl)) (fun _ h9 => h9) rfl (by decide +kernel) rfl rfl (Nat.le_of_ble_eq_true rfl) dX12_makeCode_251 (fun H locs hP hD hS => ?_)
                      obtain ⟨S44, eS44⟩ : ∃ z, z = ms S43 32 (fun _ => x99_2) := ⟨_, rfl⟩
                      have hP : va_P D vwCl (mW cI cZ h0 q S44) H := by rw [eS44]; exact hP
                      have hD : va_D A (mW cI cZ h0 q S44) := by rw [eS44]; exact hD
                      have h := h S44 eS44
                      refine lv_aload_n hx hb dX12_makeCode_254 rfl (lv_at hl 1 rfl) ?_
                      refine lv_iload_n hx hb dX12_makeCode_255 rfl (lv_at hl 2 rfl) ?_
                      refine lv_iload_n hx hb dX12_makeCode_256 rfl (lv_at hl 3 rfl) ?_
                      have hFc := zm_free hD hS hA
                      refine va_callv (va_runV (As := [.int x99_1, .int x99_2]) (rest := []) ⟨hx, hb, hml, hown, hts⟩ (zd_X12_make l D cI cZ cP cF h0 q S44 x99_1 x99_2 H.size _ h) (cwV 2 hts zg_zd_X12_makeCode_zd_X12_make_227 rfl rfl rfl (by decide +kernel) ⟨Nat.le_of_ble_eq_true rfl, Nat.le_of_ble_eq_true rfl⟩) ⟨zBW, va_recv hK hP (ci := 12) (q0 := 0) rfl rfl, fun U hU hW => ⟨rfl, by rw [hU], by rw [hU]; exact hP, hE.warm hW, hD.weaken (fun _ _ _ _ => trivial)⟩⟩ rfl rfl hl.1 rfl (lv_room (Nat.le_of_ble_eq_true rfl)) dX12_makeCode_257 ⟨Nat.le_of_ble_eq_true rfl, Nat.le_of_ble_eq_true rfl⟩) hS (fun q _ h => hFc q h) hFc (fun S45 t H locs ht hvm h hB hz1 hk1 hS => ?_)
                      obtain ⟨hP, hD1⟩ := hB
                      rw [ht] at hP
                      have hD := hD1.weaken (fun k q _ hq => hFc q.1 hq)
                      refine lv_iinc (v := x99_2 + 1) (lv' := [(2, .int (x99_2 + 1)), (3, .int 0), (0, .ref h0), (1, .int x99_1)]) hx hb dX12_makeCode_260 hl (k := 3) rfl rfl (by decide) rfl (fun ls hl => ?_)
                      refine lv_goto (tgt := 99) hx hb dX12_makeCode_263 (by decide) ?_
                      exact ih_99  S45 x99_1 (x99_2 + 1) H locs _ h hP hD hS (lv_sub hl [2, 3, 0] rfl)
                  · have h := h.2 c_36
                    refine lv_aload_n hx hb dX12_makeCode_152 rfl (lv_at hl 0 rfl) ?_
                    refine va_get (D := D) (ci := 12) (v := .ref (q 4)) (C := RX12) (T := TX12) (N := 52) hx hb hts (fun _ h => List.mem_cons_of_mem _ (List.mem_append_right _ h)) hown hK hP 0 rfl rfl 4 (by decide) (hts (.fieldLink RX12 19 "TemplateForgeModel" "op" "[I") (List.mem_of_getElem? (i := 5) rfl)) (fun _ h9 => h9) rfl dX12_makeCode_153 ?_
                    refine lv_bipush (v := 60) hx hb dX12_makeCode_156 (by decide) ?_
                    refine lv_iload_n hx hb dX12_makeCode_158 rfl (lv_at hl 1 rfl) ?_
                    refine lv_imul hx hb dX12_makeCode_159 ?_
                    refine lv_iload_n hx hb dX12_makeCode_160 rfl (lv_at hl 2 rfl) ?_
                    refine lv_iadd hx hb dX12_makeCode_161 ?_
                    refine lv_iconst (v := 1) hx hb dX12_makeCode_162 (by decide) ?_
                    refine lv_isub hx hb dX12_makeCode_163 ?_
                    have hin_46 := h.1
                    have h := h.2
                    refine va_iald hx hb hK hP 4 0 rfl rfl hin_46 dX12_makeCode_164 ?_
                    refine lv_bipush (v := 9) hx hb dX12_makeCode_165 (by decide) ?_
                    refine lv_icmp_eq (tgt := 192) hx hb dX12_makeCode_167 (by decide) (fun c_47 => ?_) (fun c_47 => ?_)
                    · have h := h.1 c_47
                      refine lv_iconst (v := 0) hx hb dX12_makeCode_192 (by decide) ?_
                      refine lv_istore_n (lv' := [(3, .int 0), (0, .ref h0), (1, .int x99_1), (2, .int x99_2)]) hx hb dX12_makeCode_193 rfl hl (by decide) rfl (fun ls hl => ?_)
                      refine lv_iload_n hx hb dX12_makeCode_194 rfl (lv_at hl 0 rfl) ?_
                      refine lv_if_eq (tgt := 213) hx hb dX12_makeCode_195 (by decide) (fun _ => ?_) (fun c => absurd (by decide) c)
                      refine lv_aload_n hx hb dX12_makeCode_213 rfl (lv_at hl 1 rfl) ?_
                      refine lv_iload_n hx hb dX12_makeCode_214 rfl (lv_at hl 2 rfl) ?_
                      have hFc := zm_free hD hS hA
                      refine va_callv (va_runV (As := [.int x99_1]) (rest := []) ⟨hx, hb, hml, hown, hts⟩ (zd_X12_begins l D cI cZ cP cF h0 q S_99 x99_1 H.size _ h) (cwV 1 hts zg_zd_X12_makeCode_zd_X12_begins_220 rfl rfl rfl (by decide +kernel) ⟨Nat.le_of_ble_eq_true rfl, Nat.le_of_ble_eq_true rfl⟩) ⟨zBW, va_recv hK hP (ci := 12) (q0 := 0) rfl rfl, fun U hU hW => ⟨rfl, by rw [hU], by rw [hU]; exact hP, hE.warm hW, hD.weaken (fun _ _ _ _ => trivial)⟩⟩ rfl rfl hl.1 rfl (lv_room (Nat.le_of_ble_eq_true rfl)) dX12_makeCode_215 ⟨Nat.le_of_ble_eq_true rfl, Nat.le_of_ble_eq_true rfl⟩) hS (fun q _ h => hFc q h) hFc (fun S48 t H locs ht hvm h hB hz1 hk1 hS => ?_)
                      obtain ⟨hP, hD1⟩ := hB
                      rw [ht] at hP
                      have hD := hD1.weaken (fun k q _ hq => hFc q.1 hq)
                      refine lv_aload_n hx hb dX12_makeCode_218 rfl (lv_at hl 1 rfl) ?_
                      refine va_get (D := D) (ci := 12) (v := .ref (q 24)) (C := RX12) (T := TX12) (N := 52) hx hb hts (fun _ h => List.mem_cons_of_mem _ (List.mem_append_right _ h)) hown hK hP 0 rfl rfl 24 (by decide) (hts (.fieldLink RX12 77 "TemplateForgeModel" "starts" "[I") (List.mem_of_getElem? (i := 52) rfl)) (fun _ h9 => h9) rfl dX12_makeCode_219 ?_
                      refine lv_bipush (v := 60) hx hb dX12_makeCode_222 (by decide) ?_
                      refine lv_aload_n hx hb dX12_makeCode_224 rfl (lv_at hl 1 rfl) ?_
                      refine va_get (D := D) (ci := 12) (v := .int (S48 31 0)) (C := RX12) (T := TX12) (N := 52) hx hb hts (fun _ h => List.mem_cons_of_mem _ (List.mem_append_right _ h)) hown hK hP 0 rfl rfl 31 (by decide) (hts (.fieldLink RX12 181 "TemplateForgeModel" "code" "I") (List.mem_of_getElem? (i := 24) rfl)) (fun _ h9 => h9) rfl dX12_makeCode_225 ?_
                      refine lv_imul hx hb dX12_makeCode_228 ?_
                      refine lv_iload_n hx hb dX12_makeCode_229 rfl (lv_at hl 3 rfl) ?_
                      refine lv_iadd hx hb dX12_makeCode_230 ?_
                      refine lv_iload_n hx hb dX12_makeCode_231 rfl (lv_at hl 3 rfl) ?_
                      refine lv_if_ne (tgt := 239) hx hb dX12_makeCode_232 (by decide) (fun c_49 => ?_) (fun c_49 => ?_)
                      · have h := h.1 c_49
                        refine lv_aload_n hx hb dX12_makeCode_239 rfl (lv_at hl 1 rfl) ?_
                        refine va_get (D := D) (ci := 12) (v := .ref (q 23)) (C := RX12) (T := TX12) (N := 52) hx hb hts (fun _ h => List.mem_cons_of_mem _ (List.mem_append_right _ h)) hown hK hP 0 rfl rfl 23 (by decide) (hts (.fieldLink RX12 74 "TemplateForgeModel" "partMany" "[I") (List.mem_of_getElem? (i := 25) rfl)) (fun _ h9 => h9) rfl dX12_makeCode_240 ?_
                        refine lv_aload_n hx hb dX12_makeCode_243 rfl (lv_at hl 1 rfl) ?_
                        refine va_get (D := D) (ci := 12) (v := .int (S48 31 0)) (C := RX12) (T := TX12) (N := 52) hx hb hts (fun _ h => List.mem_cons_of_mem _ (List.mem_append_right _ h)) hown hK hP 0 rfl rfl 31 (by decide) (hts (.fieldLink RX12 181 "TemplateForgeModel" "code" "I") (List.mem_of_getElem? (i := 24) rfl)) (fun _ h9 => h9) rfl dX12_makeCode_244 ?_
                        have hin_50 := h.1
                        have h := h.2
                        refine va_iald hx hb hK hP 22 0 rfl rfl hin_50 dX12_makeCode_247 ?_
                        have hin_51 := h.1
                        have h := h.2
                        refine va_iast hx hb hK hP hD hS 23 0 rfl rfl hin_51 dX12_makeCode_248 (fun H locs hP hD hS => ?_)
                        obtain ⟨S51, eS51⟩ : ∃ z, z = ms S48 24 (upd (S48 24) ((60 * (S48 31 0)) + x99_2 : Int32).toNatClampNeg (S48 23 (S48 31 0 : Int32).toNatClampNeg)) := ⟨_, rfl⟩
                        have hP : va_P D vwCl (mW cI cZ h0 q S51) H := by rw [eS51]; exact hP
                        have hD : va_D A (mW cI cZ h0 q S51) := by rw [eS51]; exact hD
                        have h := h S51 eS51
                        refine lv_aload_n hx hb dX12_makeCode_249 rfl (lv_at hl 1 rfl) ?_
                        refine lv_iload_n hx hb dX12_makeCode_250 rfl (lv_at hl 3 rfl) ?_
                        refine va_put (D := D) (ci := 12) (v := .int x99_2) (ty := .int) (C := RX12) (T := TX12) (N := 52) hx hb hts (fun _ h => List.mem_cons_of_mem _ (List.mem_append_right _ h)) tyX12 tyX12_ok nmX12 hown hK hP hD hS 0 rfl rfl 32 (by decide) (hts (.fieldLink RX12 184 "TemplateForgeModel" "owner" "I") (List.mem_of_getElem? (i := 26) rfl)) (fun _ h9 => h9) rfl (by decide +kernel) rfl rfl (Nat.le_of_ble_eq_true rfl) dX12_makeCode_251 (fun H locs hP hD hS => ?_)
                        obtain ⟨S52, eS52⟩ : ∃ z, z = ms S51 32 (fun _ => x99_2) := ⟨_, rfl⟩
                        have hP : va_P D vwCl (mW cI cZ h0 q S52) H := by rw [eS52]; exact hP
                        have hD : va_D A (mW cI cZ h0 q S52) := by rw [eS52]; exact hD
                        have h := h S52 eS52
                        refine lv_aload_n hx hb dX12_makeCode_254 rfl (lv_at hl 1 rfl) ?_
                        refine lv_iload_n hx hb dX12_makeCode_255 rfl (lv_at hl 2 rfl) ?_
                        refine lv_iload_n hx hb dX12_makeCode_256 rfl (lv_at hl 3 rfl) ?_
                        have hFc := zm_free hD hS hA
                        refine va_callv (va_runV (As := [.int x99_1, .int x99_2]) (rest := []) ⟨hx, hb, hml, hown, hts⟩ (zd_X12_make l D cI cZ cP cF h0 q S52 x99_1 x99_2 H.size _ h) (cwV 2 hts zg_zd_X12_makeCode_zd_X12_make_227 rfl rfl rfl (by decide +kernel) ⟨Nat.le_of_ble_eq_true rfl, Nat.le_of_ble_eq_true rfl⟩) ⟨zBW, va_recv hK hP (ci := 12) (q0 := 0) rfl rfl, fun U hU hW => ⟨rfl, by rw [hU], by rw [hU]; exact hP, hE.warm hW, hD.weaken (fun _ _ _ _ => trivial)⟩⟩ rfl rfl hl.1 rfl (lv_room (Nat.le_of_ble_eq_true rfl)) dX12_makeCode_257 ⟨Nat.le_of_ble_eq_true rfl, Nat.le_of_ble_eq_true rfl⟩) hS (fun q _ h => hFc q h) hFc (fun S53 t H locs ht hvm h hB hz1 hk1 hS => ?_)
                        obtain ⟨hP, hD1⟩ := hB
                        rw [ht] at hP
                        have hD := hD1.weaken (fun k q _ hq => hFc q.1 hq)
                        refine lv_iinc (v := x99_2 + 1) (lv' := [(2, .int (x99_2 + 1)), (3, .int 0), (0, .ref h0), (1, .int x99_1)]) hx hb dX12_makeCode_260 hl (k := 3) rfl rfl (by decide) rfl (fun ls hl => ?_)
                        refine lv_goto (tgt := 99) hx hb dX12_makeCode_263 (by decide) ?_
                        exact ih_99  S53 x99_1 (x99_2 + 1) H locs _ h hP hD hS (lv_sub hl [2, 3, 0] rfl)
                      · have h := h.2 c_49
                        refine lv_iconst (v := 0) hx hb dX12_makeCode_235 (by decide) ?_
                        refine lv_goto (tgt := 248) hx hb dX12_makeCode_236 (by decide) ?_
                        have hin_54 := h.1
                        have h := h.2
                        refine va_iast hx hb hK hP hD hS 23 0 rfl rfl hin_54 dX12_makeCode_248 (fun H locs hP hD hS => ?_)
                        obtain ⟨S54, eS54⟩ : ∃ z, z = ms S48 24 (upd (S48 24) ((60 * (S48 31 0)) + x99_2 : Int32).toNatClampNeg 0) := ⟨_, rfl⟩
                        have hP : va_P D vwCl (mW cI cZ h0 q S54) H := by rw [eS54]; exact hP
                        have hD : va_D A (mW cI cZ h0 q S54) := by rw [eS54]; exact hD
                        have h := h S54 eS54
                        refine lv_aload_n hx hb dX12_makeCode_249 rfl (lv_at hl 1 rfl) ?_
                        refine lv_iload_n hx hb dX12_makeCode_250 rfl (lv_at hl 3 rfl) ?_
                        refine va_put (D := D) (ci := 12) (v := .int x99_2) (ty := .int) (C := RX12) (T := TX12) (N := 52) hx hb hts (fun _ h => List.mem_cons_of_mem _ (List.mem_append_right _ h)) tyX12 tyX12_ok nmX12 hown hK hP hD hS 0 rfl rfl 32 (by decide) (hts (.fieldLink RX12 184 "TemplateForgeModel" "owner" "I") (List.mem_of_getElem? (i := 26) rfl)) (fun _ h9 => h9) rfl (by decide +kernel) rfl rfl (Nat.le_of_ble_eq_true rfl) dX12_makeCode_251 (fun H locs hP hD hS => ?_)
                        obtain ⟨S55, eS55⟩ : ∃ z, z = ms S54 32 (fun _ => x99_2) := ⟨_, rfl⟩
                        have hP : va_P D vwCl (mW cI cZ h0 q S55) H := by rw [eS55]; exact hP
                        have hD : va_D A (mW cI cZ h0 q S55) := by rw [eS55]; exact hD
                        have h := h S55 eS55
                        refine lv_aload_n hx hb dX12_makeCode_254 rfl (lv_at hl 1 rfl) ?_
                        refine lv_iload_n hx hb dX12_makeCode_255 rfl (lv_at hl 2 rfl) ?_
                        refine lv_iload_n hx hb dX12_makeCode_256 rfl (lv_at hl 3 rfl) ?_
                        have hFc := zm_free hD hS hA
                        refine va_callv (va_runV (As := [.int x99_1, .int x99_2]) (rest := []) ⟨hx, hb, hml, hown, hts⟩ (zd_X12_make l D cI cZ cP cF h0 q S55 x99_1 x99_2 H.size _ h) (cwV 2 hts zg_zd_X12_makeCode_zd_X12_make_227 rfl rfl rfl (by decide +kernel) ⟨Nat.le_of_ble_eq_true rfl, Nat.le_of_ble_eq_true rfl⟩) ⟨zBW, va_recv hK hP (ci := 12) (q0 := 0) rfl rfl, fun U hU hW => ⟨rfl, by rw [hU], by rw [hU]; exact hP, hE.warm hW, hD.weaken (fun _ _ _ _ => trivial)⟩⟩ rfl rfl hl.1 rfl (lv_room (Nat.le_of_ble_eq_true rfl)) dX12_makeCode_257 ⟨Nat.le_of_ble_eq_true rfl, Nat.le_of_ble_eq_true rfl⟩) hS (fun q _ h => hFc q h) hFc (fun S56 t H locs ht hvm h hB hz1 hk1 hS => ?_)
                        obtain ⟨hP, hD1⟩ := hB
                        rw [ht] at hP
                        have hD := hD1.weaken (fun k q _ hq => hFc q.1 hq)
                        refine lv_iinc (v := x99_2 + 1) (lv' := [(2, .int (x99_2 + 1)), (3, .int 0), (0, .ref h0), (1, .int x99_1)]) hx hb dX12_makeCode_260 hl (k := 3) rfl rfl (by decide) rfl (fun ls hl => ?_)
                        refine lv_goto (tgt := 99) hx hb dX12_makeCode_263 (by decide) ?_
                        exact ih_99  S56 x99_1 (x99_2 + 1) H locs _ h hP hD hS (lv_sub hl [2, 3, 0] rfl)
                    · have h := h.2 c_47
                      refine lv_aload_n hx hb dX12_makeCode_170 rfl (lv_at hl 0 rfl) ?_
                      refine va_get (D := D) (ci := 12) (v := .ref (q 4)) (C := RX12) (T := TX12) (N := 52) hx hb hts (fun _ h => List.mem_cons_of_mem _ (List.mem_append_right _ h)) hown hK hP 0 rfl rfl 4 (by decide) (hts (.fieldLink RX12 19 "TemplateForgeModel" "op" "[I") (List.mem_of_getElem? (i := 5) rfl)) (fun _ h9 => h9) rfl dX12_makeCode_171 ?_
                      refine lv_bipush (v := 60) hx hb dX12_makeCode_174 (by decide) ?_
                      refine lv_iload_n hx hb dX12_makeCode_176 rfl (lv_at hl 1 rfl) ?_
                      refine lv_imul hx hb dX12_makeCode_177 ?_
                      refine lv_iload_n hx hb dX12_makeCode_178 rfl (lv_at hl 2 rfl) ?_
                      refine lv_iadd hx hb dX12_makeCode_179 ?_
                      refine lv_iconst (v := 1) hx hb dX12_makeCode_180 (by decide) ?_
                      refine lv_isub hx hb dX12_makeCode_181 ?_
                      have hin_57 := h.1
                      have h := h.2
                      refine va_iald hx hb hK hP 4 0 rfl rfl hin_57 dX12_makeCode_182 ?_
                      refine lv_bipush (v := 12) hx hb dX12_makeCode_183 (by decide) ?_
                      refine lv_icmp_eq (tgt := 192) hx hb dX12_makeCode_185 (by decide) (fun c_58 => ?_) (fun c_58 => ?_)
                      · have h := h.1 c_58
                        refine lv_iconst (v := 0) hx hb dX12_makeCode_192 (by decide) ?_
                        refine lv_istore_n (lv' := [(3, .int 0), (0, .ref h0), (1, .int x99_1), (2, .int x99_2)]) hx hb dX12_makeCode_193 rfl hl (by decide) rfl (fun ls hl => ?_)
                        refine lv_iload_n hx hb dX12_makeCode_194 rfl (lv_at hl 0 rfl) ?_
                        refine lv_if_eq (tgt := 213) hx hb dX12_makeCode_195 (by decide) (fun _ => ?_) (fun c => absurd (by decide) c)
                        refine lv_aload_n hx hb dX12_makeCode_213 rfl (lv_at hl 1 rfl) ?_
                        refine lv_iload_n hx hb dX12_makeCode_214 rfl (lv_at hl 2 rfl) ?_
                        have hFc := zm_free hD hS hA
                        refine va_callv (va_runV (As := [.int x99_1]) (rest := []) ⟨hx, hb, hml, hown, hts⟩ (zd_X12_begins l D cI cZ cP cF h0 q S_99 x99_1 H.size _ h) (cwV 1 hts zg_zd_X12_makeCode_zd_X12_begins_220 rfl rfl rfl (by decide +kernel) ⟨Nat.le_of_ble_eq_true rfl, Nat.le_of_ble_eq_true rfl⟩) ⟨zBW, va_recv hK hP (ci := 12) (q0 := 0) rfl rfl, fun U hU hW => ⟨rfl, by rw [hU], by rw [hU]; exact hP, hE.warm hW, hD.weaken (fun _ _ _ _ => trivial)⟩⟩ rfl rfl hl.1 rfl (lv_room (Nat.le_of_ble_eq_true rfl)) dX12_makeCode_215 ⟨Nat.le_of_ble_eq_true rfl, Nat.le_of_ble_eq_true rfl⟩) hS (fun q _ h => hFc q h) hFc (fun S59 t H locs ht hvm h hB hz1 hk1 hS => ?_)
                        obtain ⟨hP, hD1⟩ := hB
                        rw [ht] at hP
                        have hD := hD1.weaken (fun k q _ hq => hFc q.1 hq)
                        refine lv_aload_n hx hb dX12_makeCode_218 rfl (lv_at hl 1 rfl) ?_
                        refine va_get (D := D) (ci := 12) (v := .ref (q 24)) (C := RX12) (T := TX12) (N := 52) hx hb hts (fun _ h => List.mem_cons_of_mem _ (List.mem_append_right _ h)) hown hK hP 0 rfl rfl 24 (by decide) (hts (.fieldLink RX12 77 "TemplateForgeModel" "starts" "[I") (List.mem_of_getElem? (i := 52) rfl)) (fun _ h9 => h9) rfl dX12_makeCode_219 ?_
                        refine lv_bipush (v := 60) hx hb dX12_makeCode_222 (by decide) ?_
                        refine lv_aload_n hx hb dX12_makeCode_224 rfl (lv_at hl 1 rfl) ?_
                        refine va_get (D := D) (ci := 12) (v := .int (S59 31 0)) (C := RX12) (T := TX12) (N := 52) hx hb hts (fun _ h => List.mem_cons_of_mem _ (List.mem_append_right _ h)) hown hK hP 0 rfl rfl 31 (by decide) (hts (.fieldLink RX12 181 "TemplateForgeModel" "code" "I") (List.mem_of_getElem? (i := 24) rfl)) (fun _ h9 => h9) rfl dX12_makeCode_225 ?_
                        refine lv_imul hx hb dX12_makeCode_228 ?_
                        refine lv_iload_n hx hb dX12_makeCode_229 rfl (lv_at hl 3 rfl) ?_
                        refine lv_iadd hx hb dX12_makeCode_230 ?_
                        refine lv_iload_n hx hb dX12_makeCode_231 rfl (lv_at hl 3 rfl) ?_
                        refine lv_if_ne (tgt := 239) hx hb dX12_makeCode_232 (by decide) (fun c_60 => ?_) (fun c_60 => ?_)
                        · have h := h.1 c_60
                          refine lv_aload_n hx hb dX12_makeCode_239 rfl (lv_at hl 1 rfl) ?_
                          refine va_get (D := D) (ci := 12) (v := .ref (q 23)) (C := RX12) (T := TX12) (N := 52) hx hb hts (fun _ h => List.mem_cons_of_mem _ (List.mem_append_right _ h)) hown hK hP 0 rfl rfl 23 (by decide) (hts (.fieldLink RX12 74 "TemplateForgeModel" "partMany" "[I") (List.mem_of_getElem? (i := 25) rfl)) (fun _ h9 => h9) rfl dX12_makeCode_240 ?_
                          refine lv_aload_n hx hb dX12_makeCode_243 rfl (lv_at hl 1 rfl) ?_
                          refine va_get (D := D) (ci := 12) (v := .int (S59 31 0)) (C := RX12) (T := TX12) (N := 52) hx hb hts (fun _ h => List.mem_cons_of_mem _ (List.mem_append_right _ h)) hown hK hP 0 rfl rfl 31 (by decide) (hts (.fieldLink RX12 181 "TemplateForgeModel" "code" "I") (List.mem_of_getElem? (i := 24) rfl)) (fun _ h9 => h9) rfl dX12_makeCode_244 ?_
                          have hin_61 := h.1
                          have h := h.2
                          refine va_iald hx hb hK hP 22 0 rfl rfl hin_61 dX12_makeCode_247 ?_
                          have hin_62 := h.1
                          have h := h.2
                          refine va_iast hx hb hK hP hD hS 23 0 rfl rfl hin_62 dX12_makeCode_248 (fun H locs hP hD hS => ?_)
                          obtain ⟨S62, eS62⟩ : ∃ z, z = ms S59 24 (upd (S59 24) ((60 * (S59 31 0)) + x99_2 : Int32).toNatClampNeg (S59 23 (S59 31 0 : Int32).toNatClampNeg)) := ⟨_, rfl⟩
                          have hP : va_P D vwCl (mW cI cZ h0 q S62) H := by rw [eS62]; exact hP
                          have hD : va_D A (mW cI cZ h0 q S62) := by rw [eS62]; exact hD
                          have h := h S62 eS62
                          refine lv_aload_n hx hb dX12_makeCode_249 rfl (lv_at hl 1 rfl) ?_
                          refine lv_iload_n hx hb dX12_makeCode_250 rfl (lv_at hl 3 rfl) ?_
                          refine va_put (D := D) (ci := 12) (v := .int x99_2) (ty := .int) (C := RX12) (T := TX12) (N := 52) hx hb hts (fun _ h => List.mem_cons_of_mem _ (List.mem_append_right _ h)) tyX12 tyX12_ok nmX12 hown hK hP hD hS 0 rfl rfl 32 (by decide) (hts (.fieldLink RX12 184 "TemplateForgeModel" "owner" "I") (List.mem_of_getElem? (i := 26) rfl)) (fun _ h9 => h9) rfl (by decide +kernel) rfl rfl (Nat.le_of_ble_eq_true rfl) dX12_makeCode_251 (fun H locs hP hD hS => ?_)
                          obtain ⟨S63, eS63⟩ : ∃ z, z = ms S62 32 (fun _ => x99_2) := ⟨_, rfl⟩
                          have hP : va_P D vwCl (mW cI cZ h0 q S63) H := by rw [eS63]; exact hP
                          have hD : va_D A (mW cI cZ h0 q S63) := by rw [eS63]; exact hD
                          have h := h S63 eS63
                          refine lv_aload_n hx hb dX12_makeCode_254 rfl (lv_at hl 1 rfl) ?_
                          refine lv_iload_n hx hb dX12_makeCode_255 rfl (lv_at hl 2 rfl) ?_
                          refine lv_iload_n hx hb dX12_makeCode_256 rfl (lv_at hl 3 rfl) ?_
                          have hFc := zm_free hD hS hA
                          refine va_callv (va_runV (As := [.int x99_1, .int x99_2]) (rest := []) ⟨hx, hb, hml, hown, hts⟩ (zd_X12_make l D cI cZ cP cF h0 q S63 x99_1 x99_2 H.size _ h) (cwV 2 hts zg_zd_X12_makeCode_zd_X12_make_227 rfl rfl rfl (by decide +kernel) ⟨Nat.le_of_ble_eq_true rfl, Nat.le_of_ble_eq_true rfl⟩) ⟨zBW, va_recv hK hP (ci := 12) (q0 := 0) rfl rfl, fun U hU hW => ⟨rfl, by rw [hU], by rw [hU]; exact hP, hE.warm hW, hD.weaken (fun _ _ _ _ => trivial)⟩⟩ rfl rfl hl.1 rfl (lv_room (Nat.le_of_ble_eq_true rfl)) dX12_makeCode_257 ⟨Nat.le_of_ble_eq_true rfl, Nat.le_of_ble_eq_true rfl⟩) hS (fun q _ h => hFc q h) hFc (fun S64 t H locs ht hvm h hB hz1 hk1 hS => ?_)
                          obtain ⟨hP, hD1⟩ := hB
                          rw [ht] at hP
                          have hD := hD1.weaken (fun k q _ hq => hFc q.1 hq)
                          refine lv_iinc (v := x99_2 + 1) (lv' := [(2, .int (x99_2 + 1)), (3, .int 0), (0, .ref h0), (1, .int x99_1)]) hx hb dX12_makeCode_260 hl (k := 3) rfl rfl (by decide) rfl (fun ls hl => ?_)
                          refine lv_goto (tgt := 99) hx hb dX12_makeCode_263 (by decide) ?_
                          exact ih_99  S64 x99_1 (x99_2 + 1) H locs _ h hP hD hS (lv_sub hl [2, 3, 0] rfl)
                        · have h := h.2 c_60
                          refine lv_iconst (v := 0) hx hb dX12_makeCode_235 (by decide) ?_
                          refine lv_goto (tgt := 248) hx hb dX12_makeCode_236 (by decide) ?_
                          have hin_65 := h.1
                          have h := h.2
                          refine va_iast hx hb hK hP hD hS 23 0 rfl rfl hin_65 dX12_makeCode_248 (fun H locs hP hD hS => ?_)
                          obtain ⟨S65, eS65⟩ : ∃ z, z = ms S59 24 (upd (S59 24) ((60 * (S59 31 0)) + x99_2 : Int32).toNatClampNeg 0) := ⟨_, rfl⟩
                          have hP : va_P D vwCl (mW cI cZ h0 q S65) H := by rw [eS65]; exact hP
                          have hD : va_D A (mW cI cZ h0 q S65) := by rw [eS65]; exact hD
                          have h := h S65 eS65
                          refine lv_aload_n hx hb dX12_makeCode_249 rfl (lv_at hl 1 rfl) ?_
                          refine lv_iload_n hx hb dX12_makeCode_250 rfl (lv_at hl 3 rfl) ?_
                          refine va_put (D := D) (ci := 12) (v := .int x99_2) (ty := .int) (C := RX12) (T := TX12) (N := 52) hx hb hts (fun _ h => List.mem_cons_of_mem _ (List.mem_append_right _ h)) tyX12 tyX12_ok nmX12 hown hK hP hD hS 0 rfl rfl 32 (by decide) (hts (.fieldLink RX12 184 "TemplateForgeModel" "owner" "I") (List.mem_of_getElem? (i := 26) rfl)) (fun _ h9 => h9) rfl (by decide +kernel) rfl rfl (Nat.le_of_ble_eq_true rfl) dX12_makeCode_251 (fun H locs hP hD hS => ?_)
                          obtain ⟨S66, eS66⟩ : ∃ z, z = ms S65 32 (fun _ => x99_2) := ⟨_, rfl⟩
                          have hP : va_P D vwCl (mW cI cZ h0 q S66) H := by rw [eS66]; exact hP
                          have hD : va_D A (mW cI cZ h0 q S66) := by rw [eS66]; exact hD
                          have h := h S66 eS66
                          refine lv_aload_n hx hb dX12_makeCode_254 rfl (lv_at hl 1 rfl) ?_
                          refine lv_iload_n hx hb dX12_makeCode_255 rfl (lv_at hl 2 rfl) ?_
                          refine lv_iload_n hx hb dX12_makeCode_256 rfl (lv_at hl 3 rfl) ?_
                          have hFc := zm_free hD hS hA
                          refine va_callv (va_runV (As := [.int x99_1, .int x99_2]) (rest := []) ⟨hx, hb, hml, hown, hts⟩ (zd_X12_make l D cI cZ cP cF h0 q S66 x99_1 x99_2 H.size _ h) (cwV 2 hts zg_zd_X12_makeCode_zd_X12_make_227 rfl rfl rfl (by decide +kernel) ⟨Nat.le_of_ble_eq_true rfl, Nat.le_of_ble_eq_true rfl⟩) ⟨zBW, va_recv hK hP (ci := 12) (q0 := 0) rfl rfl, fun U hU hW => ⟨rfl, by rw [hU], by rw [hU]; exact hP, hE.warm hW, hD.weaken (fun _ _ _ _ => trivial)⟩⟩ rfl rfl hl.1 rfl (lv_room (Nat.le_of_ble_eq_true rfl)) dX12_makeCode_257 ⟨Nat.le_of_ble_eq_true rfl, Nat.le_of_ble_eq_true rfl⟩) hS (fun q _ h => hFc q h) hFc (fun S67 t H locs ht hvm h hB hz1 hk1 hS => ?_)
                          obtain ⟨hP, hD1⟩ := hB
                          rw [ht] at hP
                          have hD := hD1.weaken (fun k q _ hq => hFc q.1 hq)
                          refine lv_iinc (v := x99_2 + 1) (lv' := [(2, .int (x99_2 + 1)), (3, .int 0), (0, .ref h0), (1, .int x99_1)]) hx hb dX12_makeCode_260 hl (k := 3) rfl rfl (by decide) rfl (fun ls hl => ?_)
                          refine lv_goto (tgt := 99) hx hb dX12_makeCode_263 (by decide) ?_
                          exact ih_99  S67 x99_1 (x99_2 + 1) H locs _ h hP hD hS (lv_sub hl [2, 3, 0] rfl)
                      · have h := h.2 c_58
                        refine lv_iconst (v := 1) hx hb dX12_makeCode_188 (by decide) ?_
                        refine lv_goto (tgt := 193) hx hb dX12_makeCode_189 (by decide) ?_
                        refine lv_istore_n (lv' := [(3, .int 1), (0, .ref h0), (1, .int x99_1), (2, .int x99_2)]) hx hb dX12_makeCode_193 rfl hl (by decide) rfl (fun ls hl => ?_)
                        refine lv_iload_n hx hb dX12_makeCode_194 rfl (lv_at hl 0 rfl) ?_
                        refine lv_if_eq (tgt := 213) hx hb dX12_makeCode_195 (by decide) (fun c => absurd c (by decide)) (fun _ => ?_)
                        refine lv_aload_n hx hb dX12_makeCode_198 rfl (lv_at hl 1 rfl) ?_
                        refine lv_aload_n hx hb dX12_makeCode_199 rfl (lv_at hl 1 rfl) ?_
                        refine va_get (D := D) (ci := 12) (v := .ref (q 7)) (C := RX12) (T := TX12) (N := 52) hx hb hts (fun _ h => List.mem_cons_of_mem _ (List.mem_append_right _ h)) hown hK hP 0 rfl rfl 7 (by decide) (hts (.fieldLink RX12 29 "TemplateForgeModel" "depths" "[I") (List.mem_of_getElem? (i := 4) rfl)) (fun _ h9 => h9) rfl dX12_makeCode_200 ?_
                        refine lv_bipush (v := 60) hx hb dX12_makeCode_203 (by decide) ?_
                        refine lv_iload_n hx hb dX12_makeCode_205 rfl (lv_at hl 2 rfl) ?_
                        refine lv_imul hx hb dX12_makeCode_206 ?_
                        refine lv_iload_n hx hb dX12_makeCode_207 rfl (lv_at hl 3 rfl) ?_
                        refine lv_iadd hx hb dX12_makeCode_208 ?_
                        have hin_68 := h.1
                        have h := h.2
                        refine va_iald hx hb hK hP 7 0 rfl rfl hin_68 dX12_makeCode_209 ?_
                        have hFc := zm_free hD hS hA
                        refine va_callv (va_runV (As := [.int (S_99 7 ((60 * x99_1) + x99_2 : Int32).toNatClampNeg)]) (rest := []) ⟨hx, hb, hml, hown, hts⟩ (zd_X12_layAll l D cI cZ cP cF h0 q S_99 (S_99 7 ((60 * x99_1) + x99_2 : Int32).toNatClampNeg) H.size _ h) (cwV 1 hts zg_zd_X12_makeCode_zd_X12_layAll_198 rfl rfl rfl (by decide +kernel) ⟨Nat.le_of_ble_eq_true rfl, Nat.le_of_ble_eq_true rfl⟩) ⟨zBW, va_recv hK hP (ci := 12) (q0 := 0) rfl rfl, fun U hU hW => ⟨rfl, by rw [hU], by rw [hU]; exact hP, hE.warm hW, hD.weaken (fun _ _ _ _ => trivial)⟩⟩ rfl rfl hl.1 rfl (lv_room (Nat.le_of_ble_eq_true rfl)) dX12_makeCode_210 ⟨Nat.le_of_ble_eq_true rfl, Nat.le_of_ble_eq_true rfl⟩) hS (fun q _ h => hFc q h) hFc (fun S69 t H locs ht hvm h hB hz1 hk1 hS => ?_)
                        obtain ⟨hP, hD1⟩ := hB
                        rw [ht] at hP
                        have hD := hD1.weaken (fun k q _ hq => hFc q.1 hq)
                        refine lv_aload_n hx hb dX12_makeCode_213 rfl (lv_at hl 1 rfl) ?_
                        refine lv_iload_n hx hb dX12_makeCode_214 rfl (lv_at hl 2 rfl) ?_
                        have hFc := zm_free hD hS hA
                        refine va_callv (va_runV (As := [.int x99_1]) (rest := []) ⟨hx, hb, hml, hown, hts⟩ (zd_X12_begins l D cI cZ cP cF h0 q S69 x99_1 H.size _ h) (cwV 1 hts zg_zd_X12_makeCode_zd_X12_begins_220 rfl rfl rfl (by decide +kernel) ⟨Nat.le_of_ble_eq_true rfl, Nat.le_of_ble_eq_true rfl⟩) ⟨zBW, va_recv hK hP (ci := 12) (q0 := 0) rfl rfl, fun U hU hW => ⟨rfl, by rw [hU], by rw [hU]; exact hP, hE.warm hW, hD.weaken (fun _ _ _ _ => trivial)⟩⟩ rfl rfl hl.1 rfl (lv_room (Nat.le_of_ble_eq_true rfl)) dX12_makeCode_215 ⟨Nat.le_of_ble_eq_true rfl, Nat.le_of_ble_eq_true rfl⟩) hS (fun q _ h => hFc q h) hFc (fun S70 t H locs ht hvm h hB hz1 hk1 hS => ?_)
                        obtain ⟨hP, hD1⟩ := hB
                        rw [ht] at hP
                        have hD := hD1.weaken (fun k q _ hq => hFc q.1 hq)
                        refine lv_aload_n hx hb dX12_makeCode_218 rfl (lv_at hl 1 rfl) ?_
                        refine va_get (D := D) (ci := 12) (v := .ref (q 24)) (C := RX12) (T := TX12) (N := 52) hx hb hts (fun _ h => List.mem_cons_of_mem _ (List.mem_append_right _ h)) hown hK hP 0 rfl rfl 24 (by decide) (hts (.fieldLink RX12 77 "TemplateForgeModel" "starts" "[I") (List.mem_of_getElem? (i := 52) rfl)) (fun _ h9 => h9) rfl dX12_makeCode_219 ?_
                        refine lv_bipush (v := 60) hx hb dX12_makeCode_222 (by decide) ?_
                        refine lv_aload_n hx hb dX12_makeCode_224 rfl (lv_at hl 1 rfl) ?_
                        refine va_get (D := D) (ci := 12) (v := .int (S70 31 0)) (C := RX12) (T := TX12) (N := 52) hx hb hts (fun _ h => List.mem_cons_of_mem _ (List.mem_append_right _ h)) hown hK hP 0 rfl rfl 31 (by decide) (hts (.fieldLink RX12 181 "TemplateForgeModel" "code" "I") (List.mem_of_getElem? (i := 24) rfl)) (fun _ h9 => h9) rfl dX12_makeCode_225 ?_
                        refine lv_imul hx hb dX12_makeCode_228 ?_
                        refine lv_iload_n hx hb dX12_makeCode_229 rfl (lv_at hl 3 rfl) ?_
                        refine lv_iadd hx hb dX12_makeCode_230 ?_
                        refine lv_iload_n hx hb dX12_makeCode_231 rfl (lv_at hl 3 rfl) ?_
                        refine lv_if_ne (tgt := 239) hx hb dX12_makeCode_232 (by decide) (fun c_71 => ?_) (fun c_71 => ?_)
                        · have h := h.1 c_71
                          refine lv_aload_n hx hb dX12_makeCode_239 rfl (lv_at hl 1 rfl) ?_
                          refine va_get (D := D) (ci := 12) (v := .ref (q 23)) (C := RX12) (T := TX12) (N := 52) hx hb hts (fun _ h => List.mem_cons_of_mem _ (List.mem_append_right _ h)) hown hK hP 0 rfl rfl 23 (by decide) (hts (.fieldLink RX12 74 "TemplateForgeModel" "partMany" "[I") (List.mem_of_getElem? (i := 25) rfl)) (fun _ h9 => h9) rfl dX12_makeCode_240 ?_
                          refine lv_aload_n hx hb dX12_makeCode_243 rfl (lv_at hl 1 rfl) ?_
                          refine va_get (D := D) (ci := 12) (v := .int (S70 31 0)) (C := RX12) (T := TX12) (N := 52) hx hb hts (fun _ h => List.mem_cons_of_mem _ (List.mem_append_right _ h)) hown hK hP 0 rfl rfl 31 (by decide) (hts (.fieldLink RX12 181 "TemplateForgeModel" "code" "I") (List.mem_of_getElem? (i := 24) rfl)) (fun _ h9 => h9) rfl dX12_makeCode_244 ?_
                          have hin_72 := h.1
                          have h := h.2
                          refine va_iald hx hb hK hP 22 0 rfl rfl hin_72 dX12_makeCode_247 ?_
                          have hin_73 := h.1
                          have h := h.2
                          refine va_iast hx hb hK hP hD hS 23 0 rfl rfl hin_73 dX12_makeCode_248 (fun H locs hP hD hS => ?_)
                          obtain ⟨S73, eS73⟩ : ∃ z, z = ms S70 24 (upd (S70 24) ((60 * (S70 31 0)) + x99_2 : Int32).toNatClampNeg (S70 23 (S70 31 0 : Int32).toNatClampNeg)) := ⟨_, rfl⟩
                          have hP : va_P D vwCl (mW cI cZ h0 q S73) H := by rw [eS73]; exact hP
                          have hD : va_D A (mW cI cZ h0 q S73) := by rw [eS73]; exact hD
                          have h := h S73 eS73
                          refine lv_aload_n hx hb dX12_makeCode_249 rfl (lv_at hl 1 rfl) ?_
                          refine lv_iload_n hx hb dX12_makeCode_250 rfl (lv_at hl 3 rfl) ?_
                          refine va_put (D := D) (ci := 12) (v := .int x99_2) (ty := .int) (C := RX12) (T := TX12) (N := 52) hx hb hts (fun _ h => List.mem_cons_of_mem _ (List.mem_append_right _ h)) tyX12 tyX12_ok nmX12 hown hK hP hD hS 0 rfl rfl 32 (by decide) (hts (.fieldLink RX12 184 "TemplateForgeModel" "owner" "I") (List.mem_of_getElem? (i := 26) rfl)) (fun _ h9 => h9) rfl (by decide +kernel) rfl rfl (Nat.le_of_ble_eq_true rfl) dX12_makeCode_251 (fun H locs hP hD hS => ?_)
                          obtain ⟨S74, eS74⟩ : ∃ z, z = ms S73 32 (fun _ => x99_2) := ⟨_, rfl⟩
                          have hP : va_P D vwCl (mW cI cZ h0 q S74) H := by rw [eS74]; exact hP
                          have hD : va_D A (mW cI cZ h0 q S74) := by rw [eS74]; exact hD
                          have h := h S74 eS74
                          refine lv_aload_n hx hb dX12_makeCode_254 rfl (lv_at hl 1 rfl) ?_
                          refine lv_iload_n hx hb dX12_makeCode_255 rfl (lv_at hl 2 rfl) ?_
                          refine lv_iload_n hx hb dX12_makeCode_256 rfl (lv_at hl 3 rfl) ?_
                          have hFc := zm_free hD hS hA
                          refine va_callv (va_runV (As := [.int x99_1, .int x99_2]) (rest := []) ⟨hx, hb, hml, hown, hts⟩ (zd_X12_make l D cI cZ cP cF h0 q S74 x99_1 x99_2 H.size _ h) (cwV 2 hts zg_zd_X12_makeCode_zd_X12_make_227 rfl rfl rfl (by decide +kernel) ⟨Nat.le_of_ble_eq_true rfl, Nat.le_of_ble_eq_true rfl⟩) ⟨zBW, va_recv hK hP (ci := 12) (q0 := 0) rfl rfl, fun U hU hW => ⟨rfl, by rw [hU], by rw [hU]; exact hP, hE.warm hW, hD.weaken (fun _ _ _ _ => trivial)⟩⟩ rfl rfl hl.1 rfl (lv_room (Nat.le_of_ble_eq_true rfl)) dX12_makeCode_257 ⟨Nat.le_of_ble_eq_true rfl, Nat.le_of_ble_eq_true rfl⟩) hS (fun q _ h => hFc q h) hFc (fun S75 t H locs ht hvm h hB hz1 hk1 hS => ?_)
                          obtain ⟨hP, hD1⟩ := hB
                          rw [ht] at hP
                          have hD := hD1.weaken (fun k q _ hq => hFc q.1 hq)
                          refine lv_iinc (v := x99_2 + 1) (lv' := [(2, .int (x99_2 + 1)), (3, .int 1), (0, .ref h0), (1, .int x99_1)]) hx hb dX12_makeCode_260 hl (k := 3) rfl rfl (by decide) rfl (fun ls hl => ?_)
                          refine lv_goto (tgt := 99) hx hb dX12_makeCode_263 (by decide) ?_
                          exact ih_99  S75 x99_1 (x99_2 + 1) H locs _ h hP hD hS (lv_sub hl [2, 3, 0] rfl)
                        · have h := h.2 c_71
                          refine lv_iconst (v := 0) hx hb dX12_makeCode_235 (by decide) ?_
                          refine lv_goto (tgt := 248) hx hb dX12_makeCode_236 (by decide) ?_
                          have hin_76 := h.1
                          have h := h.2
                          refine va_iast hx hb hK hP hD hS 23 0 rfl rfl hin_76 dX12_makeCode_248 (fun H locs hP hD hS => ?_)
                          obtain ⟨S76, eS76⟩ : ∃ z, z = ms S70 24 (upd (S70 24) ((60 * (S70 31 0)) + x99_2 : Int32).toNatClampNeg 0) := ⟨_, rfl⟩
                          have hP : va_P D vwCl (mW cI cZ h0 q S76) H := by rw [eS76]; exact hP
                          have hD : va_D A (mW cI cZ h0 q S76) := by rw [eS76]; exact hD
                          have h := h S76 eS76
                          refine lv_aload_n hx hb dX12_makeCode_249 rfl (lv_at hl 1 rfl) ?_
                          refine lv_iload_n hx hb dX12_makeCode_250 rfl (lv_at hl 3 rfl) ?_
                          refine va_put (D := D) (ci := 12) (v := .int x99_2) (ty := .int) (C := RX12) (T := TX12) (N := 52) hx hb hts (fun _ h => List.mem_cons_of_mem _ (List.mem_append_right _ h)) tyX12 tyX12_ok nmX12 hown hK hP hD hS 0 rfl rfl 32 (by decide) (hts (.fieldLink RX12 184 "TemplateForgeModel" "owner" "I") (List.mem_of_getElem? (i := 26) rfl)) (fun _ h9 => h9) rfl (by decide +kernel) rfl rfl (Nat.le_of_ble_eq_true rfl) dX12_makeCode_251 (fun H locs hP hD hS => ?_)
                          obtain ⟨S77, eS77⟩ : ∃ z, z = ms S76 32 (fun _ => x99_2) := ⟨_, rfl⟩
                          have hP : va_P D vwCl (mW cI cZ h0 q S77) H := by rw [eS77]; exact hP
                          have hD : va_D A (mW cI cZ h0 q S77) := by rw [eS77]; exact hD
                          have h := h S77 eS77
                          refine lv_aload_n hx hb dX12_makeCode_254 rfl (lv_at hl 1 rfl) ?_
                          refine lv_iload_n hx hb dX12_makeCode_255 rfl (lv_at hl 2 rfl) ?_
                          refine lv_iload_n hx hb dX12_makeCode_256 rfl (lv_at hl 3 rfl) ?_
                          have hFc := zm_free hD hS hA
                          refine va_callv (va_runV (As := [.int x99_1, .int x99_2]) (rest := []) ⟨hx, hb, hml, hown, hts⟩ (zd_X12_make l D cI cZ cP cF h0 q S77 x99_1 x99_2 H.size _ h) (cwV 2 hts zg_zd_X12_makeCode_zd_X12_make_227 rfl rfl rfl (by decide +kernel) ⟨Nat.le_of_ble_eq_true rfl, Nat.le_of_ble_eq_true rfl⟩) ⟨zBW, va_recv hK hP (ci := 12) (q0 := 0) rfl rfl, fun U hU hW => ⟨rfl, by rw [hU], by rw [hU]; exact hP, hE.warm hW, hD.weaken (fun _ _ _ _ => trivial)⟩⟩ rfl rfl hl.1 rfl (lv_room (Nat.le_of_ble_eq_true rfl)) dX12_makeCode_257 ⟨Nat.le_of_ble_eq_true rfl, Nat.le_of_ble_eq_true rfl⟩) hS (fun q _ h => hFc q h) hFc (fun S78 t H locs ht hvm h hB hz1 hk1 hS => ?_)
                          obtain ⟨hP, hD1⟩ := hB
                          rw [ht] at hP
                          have hD := hD1.weaken (fun k q _ hq => hFc q.1 hq)
                          refine lv_iinc (v := x99_2 + 1) (lv' := [(2, .int (x99_2 + 1)), (3, .int 1), (0, .ref h0), (1, .int x99_1)]) hx hb dX12_makeCode_260 hl (k := 3) rfl rfl (by decide) rfl (fun ls hl => ?_)
                          refine lv_goto (tgt := 99) hx hb dX12_makeCode_263 (by decide) ?_
                          exact ih_99  S78 x99_1 (x99_2 + 1) H locs _ h hP hD hS (lv_sub hl [2, 3, 0] rfl)
      obtain ⟨n_99, h⟩ := h
      exact LP_99 n_99 S10 x87_1 0 H locs _ h hP hD hS (lv_sub hl [1, 2, 0] rfl)
    have LP_48 : ∀ (n_48 : Nat), ∀ (S_48 : MST) (x48_1 : Int32) (x48_2 : Int32) (H : Heap) (locs : List Loc) (ls : Array Slot), wl_X12_makeCode_48 (fun S_87 x87_1 => wp_X12_fieldGuards S_87 x87_1 (fun S9 => wp_X12_begins S9 x87_1 (fun S10 => ∃ n_99, wl_X12_makeCode_99 (fun S_266 => Post S_266) Post n_99 S10 x87_1 0))) Post n_48 S_48 x48_1 x48_2 → va_P D vwCl (mW cI cZ h0 q S_48) H → va_D A (mW cI cZ h0 q S_48) → va_S A s.heap H locs → lv_has ls 4 [(0, .ref h0), (1, .int x48_1), (2, .int x48_2)] → W p l e (headSpec zw_zd_X12_makeCode ({ frames := 5, cells := 0, slots := 0, locals := 116 })).room s m ([.ref h0, .int a1] : List Value).toArray below meth c H locs 0 0 (MQ below (va_Qv (fun S' => Post S') (fun (S' : MST) t => va_P D vwCl (mW cI cZ h0 q S') t.heap ∧ va_D A (mW cI cZ h0 q S')) A) ([.ref h0, .int a1] : List Value).toArray s 0 0 A) (F0 m 48 ls []) := by
      intro n_48
      induction n_48 with
      | zero =>
        intro S_48 x48_1 x48_2 H locs ls h hP hD hS hl
        exact False.elim h
      | succ n_48 ih_48 =>
        intro S_48 x48_1 x48_2 H locs ls h hP hD hS hl
        unfold wl_X12_makeCode_48 at h
        refine lv_iload_n hx hb dX12_makeCode_48 rfl (lv_at hl 2 rfl) ?_
        refine lv_iconst (v := 3) hx hb dX12_makeCode_49 (by decide) ?_
        refine lv_icmp_ge (tgt := 87) hx hb dX12_makeCode_50 (by decide) (fun c_79 => ?_) (fun c_79 => ?_)
        · have h := h.1 c_79
          exact EX_48_87  S_48 x48_1 H locs _ h hP hD hS (lv_sub hl [0, 1] rfl)
        · have h := h.2 c_79
          refine lv_aload_n hx hb dX12_makeCode_53 rfl (lv_at hl 0 rfl) ?_
          refine va_get (D := D) (ci := 12) (v := .ref (q 30)) (C := RX12) (T := TX12) (N := 52) hx hb hts (fun _ h => List.mem_cons_of_mem _ (List.mem_append_right _ h)) hown hK hP 0 rfl rfl 30 (by decide) (hts (.fieldLink RX12 96 "TemplateForgeModel" "assumed" "[Z") (List.mem_of_getElem? (i := 11) rfl)) (fun _ h9 => h9) rfl dX12_makeCode_54 ?_
          refine lv_iload_n hx hb dX12_makeCode_57 rfl (lv_at hl 2 rfl) ?_
          have hin_80 := h.1
          have h := h.2
          refine va_zald hx hb hK hP 29 1 rfl rfl hin_80 dX12_makeCode_58 ?_
          refine lv_if_eq (tgt := 81) hx hb dX12_makeCode_59 (by decide) (fun c_81 => ?_) (fun c_81 => ?_)
          · have h := h.1 c_81
            refine lv_iinc (v := x48_2 + 1) (lv' := [(2, .int (x48_2 + 1)), (0, .ref h0), (1, .int x48_1)]) hx hb dX12_makeCode_81 hl (k := 2) rfl rfl (by decide) rfl (fun ls hl => ?_)
            refine lv_goto (tgt := 48) hx hb dX12_makeCode_84 (by decide) ?_
            exact ih_48  S_48 x48_1 (x48_2 + 1) H locs _ h hP hD hS (lv_sub hl [1, 2, 0] rfl)
          · have h := h.2 c_81
            refine lv_aload_n hx hb dX12_makeCode_62 rfl (lv_at hl 0 rfl) ?_
            refine lv_bipush (v := 17) hx hb dX12_makeCode_63 (by decide) ?_
            refine lv_iload_n hx hb dX12_makeCode_65 rfl (lv_at hl 2 rfl) ?_
            refine lv_aload_n hx hb dX12_makeCode_66 rfl (lv_at hl 0 rfl) ?_
            refine va_get (D := D) (ci := 12) (v := .ref (q 20)) (C := RX12) (T := TX12) (N := 52) hx hb hts (fun _ h => List.mem_cons_of_mem _ (List.mem_append_right _ h)) hown hK hP 0 rfl rfl 20 (by decide) (hts (.fieldLink RX12 65 "TemplateForgeModel" "value" "[I") (List.mem_of_getElem? (i := 28) rfl)) (fun _ h9 => h9) rfl dX12_makeCode_67 ?_
            refine lv_bipush (v := 11) hx hb dX12_makeCode_70 (by decide) ?_
            refine lv_iload_n hx hb dX12_makeCode_72 rfl (lv_at hl 1 rfl) ?_
            refine lv_imul hx hb dX12_makeCode_73 ?_
            refine lv_iload_n hx hb dX12_makeCode_74 rfl (lv_at hl 2 rfl) ?_
            refine lv_iadd hx hb dX12_makeCode_75 ?_
            have hin_82 := h.1
            have h := h.2
            refine va_iald hx hb hK hP 19 0 rfl rfl hin_82 dX12_makeCode_76 ?_
            refine lv_iconst (v := 0) hx hb dX12_makeCode_77 (by decide) ?_
            have hFc := zm_free hD hS hA
            refine va_callv (va_runV (As := [.int 17, .int x48_2, .int (S_48 20 ((11 * x48_1) + x48_2 : Int32).toNatClampNeg), .int 0]) (rest := []) ⟨hx, hb, hml, hown, hts⟩ (zd_X12_part l D cI cZ cP cF h0 q S_48 17 x48_2 (S_48 20 ((11 * x48_1) + x48_2 : Int32).toNatClampNeg) 0 H.size _ h) (cwV 4 hts zg_zd_X12_makeCode_zd_X12_part_187 rfl rfl rfl (by decide +kernel) ⟨Nat.le_of_ble_eq_true rfl, Nat.le_of_ble_eq_true rfl⟩) ⟨zBW, va_recv hK hP (ci := 12) (q0 := 0) rfl rfl, fun U hU hW => ⟨rfl, by rw [hU], by rw [hU]; exact hP, hE.warm hW, hD.weaken (fun _ _ _ _ => trivial)⟩⟩ rfl rfl hl.1 rfl (lv_room (Nat.le_of_ble_eq_true rfl)) dX12_makeCode_78 ⟨Nat.le_of_ble_eq_true rfl, Nat.le_of_ble_eq_true rfl⟩) hS (fun q _ h => hFc q h) hFc (fun S83 t H locs ht hvm h hB hz1 hk1 hS => ?_)
            obtain ⟨hP, hD1⟩ := hB
            rw [ht] at hP
            have hD := hD1.weaken (fun k q _ hq => hFc q.1 hq)
            refine lv_iinc (v := x48_2 + 1) (lv' := [(2, .int (x48_2 + 1)), (0, .ref h0), (1, .int x48_1)]) hx hb dX12_makeCode_81 hl (k := 2) rfl rfl (by decide) rfl (fun ls hl => ?_)
            refine lv_goto (tgt := 48) hx hb dX12_makeCode_84 (by decide) ?_
            exact ih_48  S83 x48_1 (x48_2 + 1) H locs _ h hP hD hS (lv_sub hl [1, 2, 0] rfl)
    obtain ⟨n_48, h⟩ := h
    exact LP_48 n_48 S8 a1 0 H locs _ h hP hD hS (lv_sub hl [1, 2, 0] rfl)
  exact key _ _ hP va_S.rf
