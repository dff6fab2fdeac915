def wl_X12_call_r_93 (K_140 : MST → Int32 → Int32 → Int32 → Prop) (Post : MST → Prop) : Nat → MST → Int32 → Int32 → Int32 → Int32 → Prop
  | 0, _, _, _, _, _ => False
  | n_93 + 1, S_93, x93_1, x93_3, x93_5, x93_6 => ((15 ≤ x93_6) → ((K_140 S_93 x93_1 x93_3 x93_5))) ∧ ((¬ (15 ≤ x93_6)) → (vp_in x93_1 8 ∧ ((((S_93 1 (x93_1 : Int32).toNatClampNeg) ≤ x93_6) → (vp_in ((15 * x93_5) + x93_6) 240 ∧ (∀ S24 : MST, S24 = ms S_93 42 (upd (S_93 42) ((15 * x93_5) + x93_6 : Int32).toNatClampNeg 0) → (wl_X12_call_r_93 K_140 Post n_93 S24 x93_1 x93_3 x93_5 (x93_6 + 1))))) ∧ ((¬ ((S_93 1 (x93_1 : Int32).toNatClampNeg) ≤ x93_6)) → (vp_in (x93_3 + x93_6) 240 ∧ (vp_in ((15 * x93_5) + x93_6) 240 ∧ (∀ S26 : MST, S26 = ms S_93 42 (upd (S_93 42) ((15 * x93_5) + x93_6 : Int32).toNatClampNeg (S_93 42 (x93_3 + x93_6 : Int32).toNatClampNeg)) → (wl_X12_call_r_93 K_140 Post n_93 S26 x93_1 x93_3 x93_5 (x93_6 + 1)))))))))
def wl_X12_call_r_93 (K_140 : MST → Int32 → Int32 → Int32 → Prop) (Post : MST → Prop) : Nat → MST → Int32 → Int32 → Int32 → Int32 → Prop
  | 0, _, _, _, _, _ => False
  | n_93 + 1, S_93, x93_1, x93_3, x93_5, x93_6 => ((15 ≤ x93_6) → ((K_140 S_93 x93_1 x93_3 x93_5))) ∧ ((¬ (15 ≤ x93_6)) → (vp_in x93_1 8 ∧ ((((S_93 1 (x93_1 : Int32).toNatClampNeg) ≤ x93_6) → (vp_in ((15 * x93_5) + x93_6) 240 ∧ (∀ S46 : MST, S46 = ms S_93 42 (upd (S_93 42) ((15 * x93_5) + x93_6 : Int32).toNatClampNeg 0) → (wl_X12_call_r_93 K_140 Post n_93 S46 x93_1 x93_3 x93_5 (x93_6 + 1))))) ∧ ((¬ ((S_93 1 (x93_1 : Int32).toNatClampNeg) ≤ x93_6)) → (vp_in (x93_3 + x93_6) 240 ∧ (vp_in ((15 * x93_5) + x93_6) 240 ∧ (∀ S48 : MST, S48 = ms S_93 42 (upd (S_93 42) ((15 * x93_5) + x93_6 : Int32).toNatClampNeg (S_93 42 (x93_3 + x93_6 : Int32).toNatClampNeg)) → (wl_X12_call_r_93 K_140 Post n_93 S48 x93_1 x93_3 x93_5 (x93_6 + 1)))))))))
def wl_X12_call_r_93 (K_140 : MST → Int32 → Int32 → Int32 → Prop) (Post : MST → Prop) : Nat → MST → Int32 → Int32 → Int32 → Int32 → Prop
  | 0, _, _, _, _, _ => False
  | n_93 + 1, S_93, x93_1, x93_3, x93_5, x93_6 => ((15 ≤ x93_6) → ((K_140 S_93 x93_1 x93_3 x93_5))) ∧ ((¬ (15 ≤ x93_6)) → (vp_in x93_1 8 ∧ ((((S_93 1 (x93_1 : Int32).toNatClampNeg) ≤ x93_6) → (vp_in ((15 * x93_5) + x93_6) 240 ∧ (∀ S67 : MST, S67 = ms S_93 42 (upd (S_93 42) ((15 * x93_5) + x93_6 : Int32).toNatClampNeg 0) → (wl_X12_call_r_93 K_140 Post n_93 S67 x93_1 x93_3 x93_5 (x93_6 + 1))))) ∧ ((¬ ((S_93 1 (x93_1 : Int32).toNatClampNeg) ≤ x93_6)) → (vp_in (x93_3 + x93_6) 240 ∧ (vp_in ((15 * x93_5) + x93_6) 240 ∧ (∀ S69 : MST, S69 = ms S_93 42 (upd (S_93 42) ((15 * x93_5) + x93_6 : Int32).toNatClampNeg (S_93 42 (x93_3 + x93_6 : Int32).toNatClampNeg)) → (wl_X12_call_r_93 K_140 Post n_93 S69 x93_1 x93_3 x93_5 (x93_6 + 1)))))))))
def wp_X12_call_r (S : MST) (a1 : Int32) (a3 : Int32) (a4 : Int32) (Post : MST → Prop) : Prop :=
  ((¬ (((S 37 0) : Int32) = 16)) → (wp_X12_stepOn S  (fun S2 r2 => ((¬ ((r2 : Int32) = 0)) → (∀ S4 : MST, S4 = ms S2 45 (fun _ => (S2 45 0) + 1) → (vp_in a1 8 ∧ (((¬ (((S4 15 (a1 : Int32).toNatClampNeg) : Int32) = 0)) → (vp_in (S4 37 0) 16 ∧ (∀ S7 : MST, S7 = ms S4 38 (upd (S4 38) (S4 37 0 : Int32).toNatClampNeg a1) → (vp_in (S4 37 0) 16 ∧ (∀ S8 : MST, S8 = ms S7 39 (upd (S7 39) (S4 37 0 : Int32).toNatClampNeg 0) → (vp_in (S4 37 0) 16 ∧ (∀ S9 : MST, S9 = ms S8 41 (upd (S8 41) (S4 37 0 : Int32).toNatClampNeg 0) → (∃ n_93, wl_X12_call_r_93 (fun S_140 x140_1 x140_3 x140_5 => vp_in x140_1 8 ∧ (((((S_140 15 (x140_1 : Int32).toNatClampNeg) : Int32) = 0) → (vp_in x140_5 16 ∧ (∀ S12 : MST, S12 = ms S_140 40 (upd (S_140 40) (x140_5 : Int32).toNatClampNeg (-1)) → (wp_X12_remember_r S12 x140_1 x140_3 (fun S13 => ∀ S14 : MST, S14 = ms S13 37 (fun _ => (S13 37 0) + 1) → (Post S14)))))) ∧ ((¬ (((S_140 15 (x140_1 : Int32).toNatClampNeg) : Int32) = 0)) → (wp_X12_codeNow S20 x140_1 (fun r15 => vp_in x140_5 16 ∧ (∀ S16 : MST, S16 = ms S_140 40 (upd (S_140 40) (x140_5 : Int32).toNatClampNeg r15) → (vp_in x140_1 8 ∧ (vp_in x140_1 8 ∧ (∀ S18 : MST, S18 = ms S16 19 (upd (S16 19) (x140_1 : Int32).toNatClampNeg ((S16 19 (x140_1 : Int32).toNatClampNeg) + 1)) → (∀ S19 : MST, S19 = ms S18 46 (fun _ => (S18 46 0) + 1) → (∀ S20 : MST, S20 = ms S19 37 (fun _ => (S19 37 0) + 1) → (Post S20)))))))))))) Post n_93 S9 a1 a3 (S4 37 0) 0)))))))) ∧ ((((S4 15 (a1 : Int32).toNatClampNeg) : Int32) = 0) → (vp_in a1 8 ∧ (((¬ (((S4 16 (a1 : Int32).toNatClampNeg) : Int32) = 3)) → (vp_in (S4 37 0) 16 ∧ (∀ S29 : MST, S29 = ms S4 38 (upd (S4 38) (S4 37 0 : Int32).toNatClampNeg a1) → (vp_in (S4 37 0) 16 ∧ (∀ S30 : MST, S30 = ms S29 39 (upd (S29 39) (S4 37 0 : Int32).toNatClampNeg 0) → (vp_in (S4 37 0) 16 ∧ (∀ S31 : MST, S31 = ms S30 41 (upd (S30 41) (S4 37 0 : Int32).toNatClampNeg 0) → (∃ n_93, wl_X12_call_r_93 (fun S_140 x140_1 x140_3 x140_5 => vp_in x140_1 8 ∧ (((((S_140 15 (x140_1 : Int32).toNatClampNeg) : Int32) = 0) → (vp_in x140_5 16 ∧ (∀ S34 : MST, S34 = ms S_140 40 (upd (S_140 40) (x140_5 : Int32).toNatClampNeg (-1)) → (wp_X12_remember_r S34 x140_1 x140_3 (fun S35 => ∀ S36 : MST, S36 = ms S35 37 (fun _ => (S35 37 0) + 1) → (Post S36)))))) ∧ ((¬ (((S_140 15 (x140_1 : Int32).toNatClampNeg) : Int32) = 0)) → (wp_X12_codeNow S42 x140_1 (fun r37 => vp_in x140_5 16 ∧ (∀ S38 : MST, S38 = ms S_140 40 (upd (S_140 40) (x140_5 : Int32).toNatClampNeg r37) → (vp_in x140_1 8 ∧ (vp_in x140_1 8 ∧ (∀ S40 : MST, S40 = ms S38 19 (upd (S38 19) (x140_1 : Int32).toNatClampNeg ((S38 19 (x140_1 : Int32).toNatClampNeg) + 1)) → (∀ S41 : MST, S41 = ms S40 46 (fun _ => (S40 46 0) + 1) → (∀ S42 : MST, S42 = ms S41 37 (fun _ => (S41 37 0) + 1) → (Post S42)))))))))))) Post n_93 S31 a1 a3 (S4 37 0) 0)))))))) ∧ ((((S4 16 (a1 : Int32).toNatClampNeg) : Int32) = 3) → (wp_X12_makeCode S4 a1 (fun S49 => vp_in (S49 37 0) 16 ∧ (∀ S50 : MST, S50 = ms S49 38 (upd (S49 38) (S49 37 0 : Int32).toNatClampNeg a1) → (vp_in (S49 37 0) 16 ∧ (∀ S51 : MST, S51 = ms S50 39 (upd (S50 39) (S49 37 0 : Int32).toNatClampNeg 0) → (vp_in (S49 37 0) 16 ∧ (∀ S52 : MST, S52 = ms S51 41 (upd (S51 41) (S49 37 0 : Int32).toNatClampNeg 0) → (∃ n_93, wl_X12_call_r_93 (fun S_140 x140_1 x140_3 x140_5 => vp_in x140_1 8 ∧ (((((S_140 15 (x140_1 : Int32).toNatClampNeg) : Int32) = 0) → (vp_in x140_5 16 ∧ (∀ S55 : MST, S55 = ms S_140 40 (upd (S_140 40) (x140_5 : Int32).toNatClampNeg (-1)) → (wp_X12_remember_r S55 x140_1 x140_3 (fun S56 => ∀ S57 : MST, S57 = ms S56 37 (fun _ => (S56 37 0) + 1) → (Post S57)))))) ∧ ((¬ (((S_140 15 (x140_1 : Int32).toNatClampNeg) : Int32) = 0)) → (wp_X12_codeNow S63 x140_1 (fun r58 => vp_in x140_5 16 ∧ (∀ S59 : MST, S59 = ms S_140 40 (upd (S_140 40) (x140_5 : Int32).toNatClampNeg r58) → (vp_in x140_1 8 ∧ (vp_in x140_1 8 ∧ (∀ S61 : MST, S61 = ms S59 19 (upd (S59 19) (x140_1 : Int32).toNatClampNeg ((S59 19 (x140_1 : Int32).toNatClampNeg) + 1)) → (∀ S62 : MST, S62 = ms S61 46 (fun _ => (S61 46 0) + 1) → (∀ S63 : MST, S63 = ms S62 37 (fun _ => (S62 37 0) + 1) → (Post S63)))))))))))) Post n_93 S52 a1 a3 (S49 37 0) 0)))))))))))))))) ∧ (((r2 : Int32) = 0) → (Post S2))))) ∧ ((((S 37 0) : Int32) = 16) → (wp_X12_traps S 6 a4 (fun S70 => Post S70)))
def zw_zd_X12_call_r : List Cond := .code yX12_call cX12_call 7 none :: ([.fieldLink RX12 236 "TemplateForgeModel" "open" "I", .code yX12_stepOn cX12_stepOn 1 (some .boolean), .fieldLink RX12 230 "TemplateForgeModel" "steps" "I", .fieldLink RX12 233 "TemplateForgeModel" "outcome" "I", .methodLink RX12 242 yX12_stepOn, .instanceMethod yX12_stepOn, .selects RX12 yX12_stepOn yX12_stepOn, .initialized RX12, .fieldLink RX12 246 "TemplateForgeModel" "calls" "I", .fieldLink RX12 50 "TemplateForgeModel" "hasCode" "[Z", .fieldLink RX12 111 "TemplateForgeModel" "frameMethod" "[I", .fieldLink RX12 114 "TemplateForgeModel" "frameAt" "[I", .fieldLink RX12 120 "TemplateForgeModel" "frameDepth" "[I", .fieldLink RX12 117 "TemplateForgeModel" "frameCode" "[I", .code yX12_remember cX12_remember 6 none, .fieldLink RX12 53 "TemplateForgeModel" "counted" "[I", .fieldLink RX12 41 "TemplateForgeModel" "fields" "[I", .fieldLink RX12 68 "TemplateForgeModel" "isLike" "[Z", .fieldLink RX12 65 "TemplateForgeModel" "value" "[I", .fieldLink RX12 7 "TemplateForgeModel" "args" "[I", .methodLink RX12 255 yX12_remember, .instanceMethod yX12_remember, .selects RX12 yX12_remember yX12_remember, .code yX12_codeNow cX12_codeNow 2 (some .int), .fieldLink RX12 56 "TemplateForgeModel" "madeCodes" "[I", .methodLink RX12 217 yX12_codeNow, .instanceMethod yX12_codeNow, .selects RX12 yX12_codeNow yX12_codeNow, .fieldLink RX12 62 "TemplateForgeModel" "codeCalls" "[I", .fieldLink RX12 252 "TemplateForgeModel" "callsByCode" "I", .fieldLink RX12 123 "TemplateForgeModel" "register" "[I", .code yX12_makeCode cX12_makeCode 4 none, .code yX12_assumes cX12_assumes 4 none, .code yX12_has cX12_has 6 (some .boolean), .fieldLink RX12 16 "TemplateForgeModel" "many" "[I", .fieldLink RX12 29 "TemplateForgeModel" "depths" "[I", .fieldLink RX12 19 "TemplateForgeModel" "op" "[I", .fieldLink RX12 22 "TemplateForgeModel" "operand" "[I", .methodLink RX12 178 yX12_has, .instanceMethod yX12_has, .selects RX12 yX12_has yX12_has, .fieldLink RX12 96 "TemplateForgeModel" "assumed" "[Z", .fieldLink RX12 71 "TemplateForgeModel" "doesVary" "[Z", .methodLink RX12 214 yX12_assumes, .instanceMethod yX12_assumes, .selects RX12 yX12_assumes yX12_assumes, .fieldLink RX12 181 "TemplateForgeModel" "code" "I", .fieldLink RX12 74 "TemplateForgeModel" "partMany" "[I", .fieldLink RX12 184 "TemplateForgeModel" "owner" "I", .code yX12_fieldGuards cX12_fieldGuards 3 none, .code yX12_part cX12_part 6 none, .fieldLink RX12 81 "TemplateForgeModel" "partOp" "[I", .fieldLink RX12 84 "TemplateForgeModel" "partD" "[I", .fieldLink RX12 87 "TemplateForgeModel" "partA" "[I", .fieldLink RX12 90 "TemplateForgeModel" "partB" "[I", .fieldLink RX12 93 "TemplateForgeModel" "partOf" "[I", .methodLink RX12 187 yX12_part, .instanceMethod yX12_part, .selects RX12 yX12_part yX12_part, .methodLink RX12 208 yX12_fieldGuards, .instanceMethod yX12_fieldGuards, .selects RX12 yX12_fieldGuards yX12_fieldGuards, .code yX12_begins cX12_begins 3 none, .fieldLink RX12 99 "TemplateForgeModel" "localKnown" "[Z", .fieldLink RX12 102 "TemplateForgeModel" "localIs" "[I", .fieldLink RX12 105 "TemplateForgeModel" "placeKnown" "[Z", .methodLink RX12 220 yX12_begins, .instanceMethod yX12_begins, .selects RX12 yX12_begins yX12_begins, .code yX12_isTarget cX12_isTarget 3 (some .boolean), .methodLink RX12 223 yX12_isTarget, .instanceMethod yX12_isTarget, .selects RX12 yX12_isTarget yX12_isTarget, .fieldLink RX12 77 "TemplateForgeModel" "starts" "[I", .code yX12_make cX12_make 7 none, .code yX12_makeTwo cX12_makeTwo 5 none, .code yX12_layOne cX12_layOne 2 none, .fieldLink RX12 108 "TemplateForgeModel" "placeIs" "[I", .methodLink RX12 191 yX12_layOne, .instanceMethod yX12_layOne, .selects RX12 yX12_layOne yX12_layOne, .code yX12_sumOf cX12_sumOf 3 (some .int), .methodLink RX12 195 yX12_sumOf, .static yX12_sumOf, .methodLink RX12 211 yX12_makeTwo, .instanceMethod yX12_makeTwo, .selects RX12 yX12_makeTwo yX12_makeTwo, .code yX12_knows cX12_knows 3 none, .methodLink RX12 201 yX12_knows, .instanceMethod yX12_knows, .selects RX12 yX12_knows yX12_knows, .code yX12_layAll cX12_layAll 3 none, .methodLink RX12 198 yX12_layAll, .instanceMethod yX12_layAll, .selects RX12 yX12_layAll yX12_layAll, .code yX12_makeWhen cX12_makeWhen 3 none, .methodLink RX12 205 yX12_makeWhen, .instanceMethod yX12_makeWhen, .selects RX12 yX12_makeWhen yX12_makeWhen, .methodLink RX12 227 yX12_make, .instanceMethod yX12_make, .selects RX12 yX12_make yX12_make, .methodLink RX12 249 yX12_makeCode, .instanceMethod yX12_makeCode, .selects RX12 yX12_makeCode yX12_makeCode, .code yX12_traps cX12_traps 3 none, .fieldLink RX12 126 "TemplateForgeModel" "trap" "[I", .methodLink RX12 239 yX12_traps, .instanceMethod yX12_traps, .selects RX12 yX12_traps yX12_traps] ++ wsX120)
set_option maxRecDepth 100000 in
theorem zg_zd_X12_call_r_zd_X12_stepOn_242 : GoodIn zw_zd_X12_call_r (wsV RX12 242 RX12 yX12_stepOn zw_zd_X12_stepOn) := goodIn_r _ [5, 6, 7, 8, 2, 3, 4, 111, 112, 113, 114, 115, 116, 117, 118, 119, 120, 121, 122, 123, 124, 125, 126, 127, 128, 129, 130, 131, 132, 133, 134, 135, 136, 137, 138, 139, 140, 141, 142, 143, 144, 145, 146, 147, 148, 149, 150, 151, 152, 153, 154, 155, 156, 157, 158, 159, 160, 161, 162] (by decide +kernel) (by decide +kernel)
set_option maxRecDepth 100000 in
theorem zg_zd_X12_call_r_zd_X12_remember_r_255 : GoodIn zw_zd_X12_call_r (wsV RX12 255 RX12 yX12_remember zw_zd_X12_remember_r) := goodIn_r _ [21, 22, 23, 8, 15, 16, 17, 18, 19, 20, 111, 112, 113, 114, 115, 116, 117, 118, 119, 120, 121, 122, 123, 124, 125, 126, 127, 128, 129, 130, 131, 132, 133, 134, 135, 136, 137, 138, 139, 140, 141, 142, 143, 144, 145, 146, 147, 148, 149, 150, 151, 152, 153, 154, 155, 156, 157, 158, 159, 160, 161, 162] (by decide +kernel) (by decide +kernel)
set_option maxRecDepth 100000 in
theorem zg_zd_X12_call_r_zd_X12_codeNow_217 : GoodIn zw_zd_X12_call_r (wsV RX12 217 RX12 yX12_codeNow zw_zd_X12_codeNow) := goodIn_r _ [26, 27, 28, 8, 24, 25, 111, 112, 113, 114, 115, 116, 117, 118, 119, 120, 121, 122, 123, 124, 125, 126, 127, 128, 129, 130, 131, 132, 133, 134, 135, 136, 137, 138, 139, 140, 141, 142, 143, 144, 145, 146, 147, 148, 149, 150, 151, 152, 153, 154, 155, 156, 157, 158, 159, 160, 161, 162] (by decide +kernel) (by decide +kernel)
set_option maxRecDepth 100000 in
theorem zg_zd_X12_call_r_zd_X12_makeCode_249 : GoodIn zw_zd_X12_call_r (wsV RX12 249 RX12 yX12_makeCode zw_zd_X12_makeCode) := goodIn_r _ [103, 104, 105, 8, 32, 33, 34, 35, 36, 37, 38, 39, 40, 41, 8, 42, 43, 18, 20, 44, 45, 46, 25, 10, 24, 26, 27, 28, 47, 48, 49, 50, 19, 51, 52, 53, 54, 55, 56, 57, 58, 59, 60, 61, 62, 63, 64, 65, 66, 67, 68, 69, 70, 71, 72, 73, 74, 75, 76, 77, 78, 79, 80, 81, 82, 83, 84, 85, 86, 87, 88, 89, 90, 91, 92, 93, 94, 95, 96, 97, 98, 99, 100, 101, 102, 111, 112, 113, 114, 115, 116, 117, 118, 119, 120, 121, 122, 123, 124, 125, 126, 127, 128, 129, 130, 131, 132, 133, 134, 135, 136, 137, 138, 139, 140, 141, 142, 143, 144, 145, 146, 147, 148, 149, 150, 151, 152, 153, 154, 155, 156, 157, 158, 159, 160, 161, 162] (by decide +kernel) (by decide +kernel)
set_option maxRecDepth 100000 in
theorem zg_zd_X12_call_r_zd_X12_traps_239 : GoodIn zw_zd_X12_call_r (wsV RX12 239 RX12 yX12_traps zw_zd_X12_traps) := goodIn_r _ [108, 109, 110, 8, 106, 4, 107, 11, 1, 111, 112, 113, 114, 115, 116, 117, 118, 119, 120, 121, 122, 123, 124, 125, 126, 127, 128, 129, 130, 131, 132, 133, 134, 135, 136, 137, 138, 139, 140, 141, 142, 143, 144, 145, 146, 147, 148, 149, 150, 151, 152, 153, 154, 155, 156, 157, 158, 159, 160, 161, 162] (by decide +kernel) (by decide +kernel)
set_option maxHeartbeats 16000000 in
set_option maxRecDepth 100000 in
theorem zd_X12_call_r (l : Launch) (D : va_G) (cI cZ cP cF : Nat) (h0 : Nat) (q : Nat → Nat) (S : MST) (a1 : Int32) (a3 : Int32) (a4 : Int32) (sz : Nat) (Post : MST → Prop) (h : wp_X12_call_r S a1 a3 a4 Post) : Met l yX12_call zw_zd_X12_call_r ({ frames := 6, cells := 0, slots := 0, locals := 139 }) (va_Pc [.ref h0, .int a1, .ref (q 42), .int a3, .int a4] (fun U => U.heap.size = sz ∧ va_P D vwCl (mW cI cZ h0 q S) U.heap ∧ zE D cI cZ cP cF U ∧ va_D (fun _ => True) (mW cI cZ h0 q S))) (va_Qv (fun S' => Post S') (fun (S' : MST) t => va_P D vwCl (mW cI cZ h0 q S') t.heap ∧ va_D (va_A (mW cI cZ h0 q S) sz) (mW cI cZ h0 q S')) (va_A (mW cI cZ h0 q S) sz)) 0 0 (va_A (mW cI cZ h0 q S) sz) := by
  unfold wp_X12_call_r at h
  refine Met.ofW (cc := cX12_call) (maxL := 7) (ret := none) (by decide) rfl ?_
  intro p e s m args below meth c s₁ B hml hv
  obtain ⟨rfl, hsz, hP, hE, hD0⟩ := hv
  have hx := B.exec
  have hb := B.bytes
  have hr := B.returns
  have hts := atoms_spec (ws := zw_zd_X12_call_r) B.pre
  have hown : s.vm.findClass RX12 = some m.cls := findClass_of_methodNamed B.named
  have hlocks := B.notSynchronized
  have hK := hE.k
  subst hsz
  have hD := hD0.self (sz := s.heap.size)
  generalize hAe : va_A (mW cI cZ h0 q S) s.heap.size = A at hD ⊢
  have hA : ∀ q : Nat, s.heap.size ≤ q → A q := fun q h => by rw [← hAe]; exact Or.inr h
  have hl := lv_entry ([.ref h0, .int a1, .ref (q 42), .int a3, .int a4]) (n := 7) (Nat.le_of_ble_eq_true rfl)
  rw [lg_entry_eq]
  generalize (lg_sl ([.ref h0, .int a1, .ref (q 42), .int a3, .int a4]) ++ List.replicate (7 - (lg_sl ([.ref h0, .int a1, .ref (q 42), .int a3, .int a4])).length) Slot.unset).toArray = ls at hl ⊢
  have hl : lv_has ls 7 [(0, .ref h0), (1, .int a1), (2, .ref (q 42)), (3, .int a3), (4, .int a4)] := hl
  have key : ∀ (H : Heap) (locs : List Loc), va_P D vwCl (mW cI cZ h0 q S) H → va_S A s.heap H locs → W p l e (headSpec zw_zd_X12_call_r ({ frames := 6, cells := 0, slots := 0, locals := 139 })).room s m ([.ref h0, .int a1, .ref (q 42), .int a3, .int a4] : List Value).toArray below meth c H locs 0 0 (MQ below (va_Qv (fun S' => Post S') (fun (S' : MST) t => va_P D vwCl (mW cI cZ h0 q S') t.heap ∧ va_D A (mW cI cZ h0 q S')) A) ([.ref h0, .int a1, .ref (q 42), .int a3, .int a4] : List Value).toArray s 0 0 A) (F0 m 0 ls []) := by
    intro H locs hP hS
    refine lv_aload_n hx hb dX12_call_0 rfl (lv_at hl 0 rfl) ?_
    refine va_get (D := D) (ci := 12) (v := .int (S 37 0)) (C := RX12) (T := TX12) (N := 52) hx hb hts (fun _ h => List.mem_cons_of_mem _ (List.mem_append_right _ h)) hown hK hP 0 rfl rfl 37 (by decide) (hts (.fieldLink RX12 236 "TemplateForgeModel" "open" "I") (List.mem_of_getElem? (i := 1) rfl)) (fun _ h9 => h9) rfl dX12_call_1 ?_
    refine lv_bipush (v := 16) hx hb dX12_call_4 (by decide) ?_
    refine lv_icmp_ne (tgt := 18) hx hb dX12_call_6 (by decide) (fun c_1 => ?_) (fun c_1 => ?_)
    · have h := h.1 c_1
      refine lv_aload_n hx hb dX12_call_18 rfl (lv_at hl 0 rfl) ?_
      have hFc := zm_free hD hS hA
      refine va_calli (va_runV (As := []) (rest := []) ⟨hx, hb, hml, hown, hts⟩ (zd_X12_stepOn l D cI cZ cP cF h0 q S  H.size _ h) (cwV 0 hts zg_zd_X12_call_r_zd_X12_stepOn_242 rfl rfl rfl (by decide +kernel) ⟨Nat.le_of_ble_eq_true rfl, Nat.le_of_ble_eq_true rfl⟩) ⟨zBW, va_recv hK hP (ci := 12) (q0 := 0) rfl rfl, fun U hU hW => ⟨rfl, by rw [hU], by rw [hU]; exact hP, hE.warm hW, hD.weaken (fun _ _ _ _ => trivial)⟩⟩ rfl rfl hl.1 rfl (lv_room (Nat.le_of_ble_eq_true rfl)) dX12_call_19 ⟨Nat.le_of_ble_eq_true rfl, Nat.le_of_ble_eq_true rfl⟩) hS (fun q _ h => hFc q h) hFc (fun r2 S2 t H locs ht hvm h hB hz1 hk1 hS => ?_)
      obtain ⟨hP, hD1⟩ := hB
      rw [ht] at hP
      have hD := hD1.weaken (fun k q _ hq => hFc q.1 hq)
      refine lv_if_ne (tgt := 26) hx hb dX12_call_22 (by decide) (fun c_3 => ?_) (fun c_3 => ?_)
      · have h := h.1 c_3
        refine lv_aload_n hx hb dX12_call_26 rfl (lv_at hl 0 rfl) ?_
        refine lv_dup hx hb dX12_call_27 rfl ?_
        refine va_get (D := D) (ci := 12) (v := .int (S2 45 0)) (C := RX12) (T := TX12) (N := 52) hx hb hts (fun _ h => List.mem_cons_of_mem _ (List.mem_append_right _ h)) hown hK hP 0 rfl rfl 45 (by decide) (hts (.fieldLink RX12 246 "TemplateForgeModel" "calls" "I") (List.mem_of_getElem? (i := 9) rfl)) (fun _ h9 => h9) rfl dX12_call_28 ?_
        refine lv_iconst (v := 1) hx hb dX12_call_31 (by decide) ?_
        refine lv_iadd hx hb dX12_call_32 ?_
        refine va_put (D := D) (ci := 12) (v := .int ((S2 45 0) + 1)) (ty := .int) (C := RX12) (T := TX12) (N := 52) hx hb hts (fun _ h => List.mem_cons_of_mem _ (List.mem_append_right _ h)) tyX12 tyX12_ok nmX12 hown hK hP hD hS 0 rfl rfl 45 (by decide) (hts (.fieldLink RX12 246 "TemplateForgeModel" "calls" "I") (List.mem_of_getElem? (i := 9) rfl)) (fun _ h9 => h9) rfl (by decide +kernel) rfl rfl (Nat.le_of_ble_eq_true rfl) dX12_call_33 (fun H locs hP hD hS => ?_)
        obtain ⟨S4, eS4⟩ : ∃ z, z = ms S2 45 (fun _ => (S2 45 0) + 1) := ⟨_, rfl⟩
        have hP : va_P D vwCl (mW cI cZ h0 q S4) H := by rw [eS4]; exact hP
        have hD : va_D A (mW cI cZ h0 q S4) := by rw [eS4]; exact hD
        have h := h S4 eS4
        refine lv_aload_n hx hb dX12_call_36 rfl (lv_at hl 0 rfl) ?_
        refine va_get (D := D) (ci := 12) (v := .ref (q 15)) (C := RX12) (T := TX12) (N := 52) hx hb hts (fun _ h => List.mem_cons_of_mem _ (List.mem_append_right _ h)) hown hK hP 0 rfl rfl 15 (by decide) (hts (.fieldLink RX12 50 "TemplateForgeModel" "hasCode" "[Z") (List.mem_of_getElem? (i := 10) rfl)) (fun _ h9 => h9) rfl dX12_call_37 ?_
        refine lv_iload_n hx hb dX12_call_40 rfl (lv_at hl 1 rfl) ?_
        have hin_5 := h.1
        have h := h.2
        refine va_zald hx hb hK hP 14 1 rfl rfl hin_5 dX12_call_41 ?_
        refine lv_if_ne (tgt := 60) hx hb dX12_call_42 (by decide) (fun c_6 => ?_) (fun c_6 => ?_)
        · have h := h.1 c_6
          refine lv_aload_n hx hb dX12_call_60 rfl (lv_at hl 0 rfl) ?_
          refine va_get (D := D) (ci := 12) (v := .int (S4 37 0)) (C := RX12) (T := TX12) (N := 52) hx hb hts (fun _ h => List.mem_cons_of_mem _ (List.mem_append_right _ h)) hown hK hP 0 rfl rfl 37 (by decide) (hts (.fieldLink RX12 236 "TemplateForgeModel" "open" "I") (List.mem_of_getElem? (i := 1) rfl)) (fun _ h9 => h9) rfl dX12_call_61 ?_
          refine lv_istore (lv' := [(5, .int (S4 37 0)), (0, .ref h0), (1, .int a1), (2, .ref (q 42)), (3, .int a3), (4, .int a4)]) hx hb dX12_call_64 hl (by decide) rfl (fun ls hl => ?_)
          refine lv_aload_n hx hb dX12_call_66 rfl (lv_at hl 1 rfl) ?_
          refine va_get (D := D) (ci := 12) (v := .ref (q 38)) (C := RX12) (T := TX12) (N := 52) hx hb hts (fun _ h => List.mem_cons_of_mem _ (List.mem_append_right _ h)) hown hK hP 0 rfl rfl 38 (by decide) (hts (.fieldLink RX12 111 "TemplateForgeModel" "frameMethod" "[I") (List.mem_of_getElem? (i := 11) rfl)) (fun _ h9 => h9) rfl dX12_call_67 ?_
          refine lv_iload hx hb dX12_call_70 (lv_at hl 0 rfl) ?_
          refine lv_iload_n hx hb dX12_call_72 rfl (lv_at hl 2 rfl) ?_
          have hin_7 := h.1
          have h := h.2
          refine va_iast hx hb hK hP hD hS 34 0 rfl rfl hin_7 dX12_call_73 (fun H locs hP hD hS => ?_)
          obtain ⟨S7, eS7⟩ : ∃ z, z = ms S4 38 (upd (S4 38) (S4 37 0 : Int32).toNatClampNeg a1) := ⟨_, rfl⟩
          have hP : va_P D vwCl (mW cI cZ h0 q S7) H := by rw [eS7]; exact hP
          have hD : va_D A (mW cI cZ h0 q S7) := by rw [eS7]; exact hD
          have h := h S7 eS7
          refine lv_aload_n hx hb dX12_call_74 rfl (lv_at hl 1 rfl) ?_
          refine va_get (D := D) (ci := 12) (v := .ref (q 39)) (C := RX12) (T := TX12) (N := 52) hx hb hts (fun _ h => List.mem_cons_of_mem _ (List.mem_append_right _ h)) hown hK hP 0 rfl rfl 39 (by decide) (hts (.fieldLink RX12 114 "TemplateForgeModel" "frameAt" "[I") (List.mem_of_getElem? (i := 12) rfl)) (fun _ h9 => h9) rfl dX12_call_75 ?_
          refine lv_iload hx hb dX12_call_78 (lv_at hl 0 rfl) ?_
          refine lv_iconst (v := 0) hx hb dX12_call_80 (by decide) ?_
          have hin_8 := h.1
          have h := h.2
          refine va_iast hx hb hK hP hD hS 35 0 rfl rfl hin_8 dX12_call_81 (fun H locs hP hD hS => ?_)
          obtain ⟨S8, eS8⟩ : ∃ z, z = ms S7 39 (upd (S7 39) (S4 37 0 : Int32).toNatClampNeg 0) := ⟨_, rfl⟩
          have hP : va_P D vwCl (mW cI cZ h0 q S8) H := by rw [eS8]; exact hP
          have hD : va_D A (mW cI cZ h0 q S8) := by rw [eS8]; exact hD
          have h := h S8 eS8
          refine lv_aload_n hx hb dX12_call_82 rfl (lv_at hl 1 rfl) ?_
          refine va_get (D := D) (ci := 12) (v := .ref (q 41)) (C := RX12) (T := TX12) (N := 52) hx hb hts (fun _ h => List.mem_cons_of_mem _ (List.mem_append_right _ h)) hown hK hP 0 rfl rfl 41 (by decide) (hts (.fieldLink RX12 120 "TemplateForgeModel" "frameDepth" "[I") (List.mem_of_getElem? (i := 13) rfl)) (fun _ h9 => h9) rfl dX12_call_83 ?_
          refine lv_iload hx hb dX12_call_86 (lv_at hl 0 rfl) ?_
          refine lv_iconst (v := 0) hx hb dX12_call_88 (by decide) ?_
          have hin_9 := h.1
          have h := h.2
          refine va_iast hx hb hK hP hD hS 37 0 rfl rfl hin_9 dX12_call_89 (fun H locs hP hD hS => ?_)
          obtain ⟨S9, eS9⟩ : ∃ z, z = ms S8 41 (upd (S8 41) (S4 37 0 : Int32).toNatClampNeg 0) := ⟨_, rfl⟩
          have hP : va_P D vwCl (mW cI cZ h0 q S9) H := by rw [eS9]; exact hP
          have hD : va_D A (mW cI cZ h0 q S9) := by rw [eS9]; exact hD
          have h := h S9 eS9
          refine lv_iconst (v := 0) hx hb dX12_call_90 (by decide) ?_
          refine lv_istore (lv' := [(6, .int 0), (5, .int (S4 37 0)), (0, .ref h0), (1, .int a1), (2, .ref (q 42)), (3, .int a3), (4, .int a4)]) hx hb dX12_call_91 hl (by decide) rfl (fun ls hl => ?_)
          have EX_93_140 : ∀ (S_140 : MST) (x140_1 : Int32) (x140_3 : Int32) (x140_5 : Int32) (H : Heap) (locs : List Loc) (ls : Array Slot), (vp_in x140_1 8 ∧ (((((S_140 15 (x140_1 : Int32).toNatClampNeg) : Int32) = 0) → (vp_in x140_5 16 ∧ (∀ S12 : MST, S12 = ms S_140 40 (upd (S_140 40) (x140_5 : Int32).toNatClampNeg (-1)) → (wp_X12_remember_r S12 x140_1 x140_3 (fun S13 => ∀ S14 : MST, S14 = ms S13 37 (fun _ => (S13 37 0) + 1) → (Post S14)))))) ∧ ((¬ (((S_140 15 (x140_1 : Int32).toNatClampNeg) : Int32) = 0)) → (wp_X12_codeNow S20 x140_1 (fun r15 => vp_in x140_5 16 ∧ (∀ S16 : MST, S16 = ms S_140 40 (upd (S_140 40) (x140_5 : Int32).toNatClampNeg r15) → (vp_in x140_1 8 ∧ (vp_in x140_1 8 ∧ (∀ S18 : MST, S18 = ms S16 19 (upd (S16 19) (x140_1 : Int32).toNatClampNeg ((S16 19 (x140_1 : Int32).toNatClampNeg) + 1)) → (∀ S19 : MST, S19 = ms S18 46 (fun _ => (S18 46 0) + 1) → (∀ S20 : MST, S20 = ms S19 37 (fun _ => (S19 37 0) + 1) → (Post S20)))))))))))) → va_P D vwCl (mW cI cZ h0 q S_140) H → va_D A (mW cI cZ h0 q S_140) → va_S A s.heap H locs → lv_has ls 7 [(0, .ref h0), (1, .int x140_1), (2, .ref (q 42)), (3, .int x140_3), (5, .int x140_5)] → W p l e (headSpec zw_zd_X12_call_r ({ frames := 6, cells := 0, slots := 0, locals := 139 })).room s m ([.ref h0, .int a1, .ref (q 42), .int a3, .int a4] : List Value).toArray below meth c H locs 0 0 (MQ below (va_Qv (fun S' => Post S') (fun (S' : MST) t => va_P D vwCl (mW cI cZ h0 q S') t.heap ∧ va_D A (mW cI cZ h0 q S')) A) ([.ref h0, .int a1, .ref (q 42), .int a3, .int a4] : List Value).toArray s 0 0 A) (F0 m 140 ls []) := by
            intro S_140 x140_1 x140_3 x140_5 H locs ls h hP hD hS hl
            refine lv_aload_n hx hb dX12_call_140 rfl (lv_at hl 0 rfl) ?_
            refine va_get (D := D) (ci := 12) (v := .ref (q 15)) (C := RX12) (T := TX12) (N := 52) hx hb hts (fun _ h => List.mem_cons_of_mem _ (List.mem_append_right _ h)) hown hK hP 0 rfl rfl 15 (by decide) (hts (.fieldLink RX12 50 "TemplateForgeModel" "hasCode" "[Z") (List.mem_of_getElem? (i := 10) rfl)) (fun _ h9 => h9) rfl dX12_call_141 ?_
            refine lv_iload_n hx hb dX12_call_144 rfl (lv_at hl 1 rfl) ?_
            have hin_10 := h.1
            have h := h.2
            refine va_zald hx hb hK hP 14 1 rfl rfl hin_10 dX12_call_145 ?_
            refine lv_if_eq (tgt := 184) hx hb dX12_call_146 (by decide) (fun c_11 => ?_) (fun c_11 => ?_)
            · have h := h.1 c_11
              refine lv_aload_n hx hb dX12_call_184 rfl (lv_at hl 0 rfl) ?_
              refine va_get (D := D) (ci := 12) (v := .ref (q 40)) (C := RX12) (T := TX12) (N := 52) hx hb hts (fun _ h => List.mem_cons_of_mem _ (List.mem_append_right _ h)) hown hK hP 0 rfl rfl 40 (by decide) (hts (.fieldLink RX12 117 "TemplateForgeModel" "frameCode" "[I") (List.mem_of_getElem? (i := 14) rfl)) (fun _ h9 => h9) rfl dX12_call_185 ?_
              refine lv_iload hx hb dX12_call_188 (lv_at hl 4 rfl) ?_
              refine lv_iconst (v := (-1)) hx hb dX12_call_190 (by decide) ?_
              have hin_12 := h.1
              have h := h.2
              refine va_iast hx hb hK hP hD hS 36 0 rfl rfl hin_12 dX12_call_191 (fun H locs hP hD hS => ?_)
              obtain ⟨S12, eS12⟩ : ∃ z, z = ms S_140 40 (upd (S_140 40) (x140_5 : Int32).toNatClampNeg (-1)) := ⟨_, rfl⟩
              have hP : va_P D vwCl (mW cI cZ h0 q S12) H := by rw [eS12]; exact hP
              have hD : va_D A (mW cI cZ h0 q S12) := by rw [eS12]; exact hD
              have h := h S12 eS12
              refine lv_aload_n hx hb dX12_call_192 rfl (lv_at hl 0 rfl) ?_
              refine lv_iload_n hx hb dX12_call_193 rfl (lv_at hl 1 rfl) ?_
              refine lv_aload_n hx hb dX12_call_194 rfl (lv_at hl 2 rfl) ?_
              refine lv_iload_n hx hb dX12_call_195 rfl (lv_at hl 3 rfl) ?_
              have hFc := zm_free hD hS hA
              refine va_callv (va_runV (As := [.int x140_1, .ref (q 42), .int x140_3]) (rest := []) ⟨hx, hb, hml, hown, hts⟩ (zd_X12_remember_r l D cI cZ cP cF h0 q S12 x140_1 x140_3 H.size _ h) (cwV 3 hts zg_zd_X12_call_r_zd_X12_remember_r_255 rfl rfl rfl (by decide +kernel) ⟨Nat.le_of_ble_eq_true rfl, Nat.le_of_ble_eq_true rfl⟩) ⟨zBW, va_recv hK hP (ci := 12) (q0 := 0) rfl rfl, fun U hU hW => ⟨rfl, by rw [hU], by rw [hU]; exact hP, hE.warm hW, hD.weaken (fun _ _ _ _ => trivial)⟩⟩ rfl rfl hl.1 rfl (lv_room (Nat.le_of_ble_eq_true rfl)) dX12_call_196 ⟨Nat.le_of_ble_eq_true rfl, Nat.le_of_ble_eq_true rfl⟩) hS (fun q _ h => hFc q h) hFc (fun S13 t H locs ht hvm h hB hz1 hk1 hS => ?_)
              obtain ⟨hP, hD1⟩ := hB
              rw [ht] at hP
              have hD := hD1.weaken (fun k q _ hq => hFc q.1 hq)
              refine lv_aload_n hx hb dX12_call_199 rfl (lv_at hl 0 rfl) ?_
              refine lv_dup hx hb dX12_call_200 rfl ?_
              refine va_get (D := D) (ci := 12) (v := .int (S13 37 0)) (C := RX12) (T := TX12) (N := 52) hx hb hts (fun _ h => List.mem_cons_of_mem _ (List.mem_append_right _ h)) hown hK hP 0 rfl rfl 37 (by decide) (hts (.fieldLink RX12 236 "TemplateForgeModel" "open" "I") (List.mem_of_getElem? (i := 1) rfl)) (fun _ h9 => h9) rfl dX12_call_201 ?_
              refine lv_iconst (v := 1) hx hb dX12_call_204 (by decide) ?_
              refine lv_iadd hx hb dX12_call_205 ?_
              refine va_put (D := D) (ci := 12) (v := .int ((S13 37 0) + 1)) (ty := .int) (C := RX12) (T := TX12) (N := 52) hx hb hts (fun _ h => List.mem_cons_of_mem _ (List.mem_append_right _ h)) tyX12 tyX12_ok nmX12 hown hK hP hD hS 0 rfl rfl 37 (by decide) (hts (.fieldLink RX12 236 "TemplateForgeModel" "open" "I") (List.mem_of_getElem? (i := 1) rfl)) (fun _ h9 => h9) rfl (by decide +kernel) rfl rfl (Nat.le_of_ble_eq_true rfl) dX12_call_206 (fun H locs hP hD hS => ?_)
              obtain ⟨S14, eS14⟩ : ∃ z, z = ms S13 37 (fun _ => (S13 37 0) + 1) := ⟨_, rfl⟩
              have hP : va_P D vwCl (mW cI cZ h0 q S14) H := by rw [eS14]; exact hP
              have hD : va_D A (mW cI cZ h0 q S14) := by rw [eS14]; exact hD
              have h := h S14 eS14
              exact W.vret hx hb hr (fun t ht hW => ⟨⟨S14, rfl, h, by rw [ht]; exact hP, hD⟩, hS.F ht⟩) hS.2.2 dX12_call_209
            · have h := h.2 c_11
              refine lv_aload_n hx hb dX12_call_149 rfl (lv_at hl 0 rfl) ?_
              refine va_get (D := D) (ci := 12) (v := .ref (q 40)) (C := RX12) (T := TX12) (N := 52) hx hb hts (fun _ h => List.mem_cons_of_mem _ (List.mem_append_right _ h)) hown hK hP 0 rfl rfl 40 (by decide) (hts (.fieldLink RX12 117 "TemplateForgeModel" "frameCode" "[I") (List.mem_of_getElem? (i := 14) rfl)) (fun _ h9 => h9) rfl dX12_call_150 ?_
              refine lv_iload hx hb dX12_call_153 (lv_at hl 4 rfl) ?_
              refine lv_aload_n hx hb dX12_call_155 rfl (lv_at hl 0 rfl) ?_
              refine lv_iload_n hx hb dX12_call_156 rfl (lv_at hl 1 rfl) ?_
              refine vp_callSi (va_Run.run (va_runV (As := [.int x140_1]) (rest := [.int x140_5, .ref (q 40)]) ⟨hx, hb, hml, hown, hts⟩ (zd_X12_codeNow l D cI cZ cP cF h0 q S_140 x140_1  _ h) (cwV 1 hts zg_zd_X12_call_r_zd_X12_codeNow_217 rfl rfl rfl (by decide +kernel) ⟨Nat.le_of_ble_eq_true rfl, Nat.le_of_ble_eq_true rfl⟩) ⟨zBR, va_recv hK hP (ci := 12) (q0 := 0) rfl rfl, fun U hU hW => ⟨rfl, by rw [hU]; exact hP, hE.warm hW⟩⟩ rfl rfl hl.1 rfl (lv_room (Nat.le_of_ble_eq_true rfl)) dX12_call_157 ⟨Nat.le_of_ble_eq_true rfl, Nat.le_of_ble_eq_true rfl⟩)) (fun r15 h => ?_)
              have hin_16 := h.1
              have h := h.2
              refine va_iast hx hb hK hP hD hS 36 0 rfl rfl hin_16 dX12_call_160 (fun H locs hP hD hS => ?_)
              obtain ⟨S16, eS16⟩ : ∃ z, z = ms S_140 40 (upd (S_140 40) (x140_5 : Int32).toNatClampNeg r15) := ⟨_, rfl⟩
              have hP : va_P D vwCl (mW cI cZ h0 q S16) H := by rw [eS16]; exact hP
              have hD : va_D A (mW cI cZ h0 q S16) := by rw [eS16]; exact hD
              have h := h S16 eS16
              refine lv_aload_n hx hb dX12_call_161 rfl (lv_at hl 0 rfl) ?_
              refine va_get (D := D) (ci := 12) (v := .ref (q 19)) (C := RX12) (T := TX12) (N := 52) hx hb hts (fun _ h => List.mem_cons_of_mem _ (List.mem_append_right _ h)) hown hK hP 0 rfl rfl 19 (by decide) (hts (.fieldLink RX12 62 "TemplateForgeModel" "codeCalls" "[I") (List.mem_of_getElem? (i := 29) rfl)) (fun _ h9 => h9) rfl dX12_call_162 ?_
              refine lv_iload_n hx hb dX12_call_165 rfl (lv_at hl 1 rfl) ?_
              refine lv_dup2_11 hx hb dX12_call_166 rfl rfl ?_
              have hin_17 := h.1
              have h := h.2
              refine va_iald hx hb hK hP 18 0 rfl rfl hin_17 dX12_call_167 ?_
              refine lv_iconst (v := 1) hx hb dX12_call_168 (by decide) ?_
              refine lv_iadd hx hb dX12_call_169 ?_
              have hin_18 := h.1
              have h := h.2
              refine va_iast hx hb hK hP hD hS 18 0 rfl rfl hin_18 dX12_call_170 (fun H locs hP hD hS => ?_)
              obtain ⟨S18, eS18⟩ : ∃ z, z = ms S16 19 (upd (S16 19) (x140_1 : Int32).toNatClampNeg ((S16 19 (x140_1 : Int32).toNatClampNeg) + 1)) := ⟨_, rfl⟩
              have hP : va_P D vwCl (mW cI cZ h0 q S18) H := by rw [eS18]; exact hP
              have hD : va_D A (mW cI cZ h0 q S18) := by rw [eS18]; exact hD
              have h := h S18 eS18
              refine lv_aload_n hx hb dX12_call_171 rfl (lv_at hl 0 rfl) ?_
              refine lv_dup hx hb dX12_call_172 rfl ?_
              refine va_get (D := D) (ci := 12) (v := .int (S18 46 0)) (C := RX12) (T := TX12) (N := 52) hx hb hts (fun _ h => List.mem_cons_of_mem _ (List.mem_append_right _ h)) hown hK hP 0 rfl rfl 46 (by decide) (hts (.fieldLink RX12 252 "TemplateForgeModel" "callsByCode" "I") (List.mem_of_getElem? (i := 30) rfl)) (fun _ h9 => h9) rfl dX12_call_173 ?_
              refine lv_iconst (v := 1) hx hb dX12_call_176 (by decide) ?_
              refine lv_iadd hx hb dX12_call_177 ?_
              refine va_put (D := D) (ci := 12) (v := .int ((S18 46 0) + 1)) (ty := .int) (C := RX12) (T := TX12) (N := 52) hx hb hts (fun _ h => List.mem_cons_of_mem _ (List.mem_append_right _ h)) tyX12 tyX12_ok nmX12 hown hK hP hD hS 0 rfl rfl 46 (by decide) (hts (.fieldLink RX12 252 "TemplateForgeModel" "callsByCode" "I") (List.mem_of_getElem? (i := 30) rfl)) (fun _ h9 => h9) rfl (by decide +kernel) rfl rfl (Nat.le_of_ble_eq_true rfl) dX12_call_178 (fun H locs hP hD hS => ?_)
              obtain ⟨S19, eS19⟩ : ∃ z, z = ms S18 46 (fun _ => (S18 46 0) + 1) := ⟨_, rfl⟩
              have hP : va_P D vwCl (mW cI cZ h0 q S19) H := by rw [eS19]; exact hP
              have hD : va_D A (mW cI cZ h0 q S19) := by rw [eS19]; exact hD
              have h := h S19 eS19
              refine lv_goto (tgt := 199) hx hb dX12_call_181 (by decide) ?_
              refine lv_aload_n hx hb dX12_call_199 rfl (lv_at hl 0 rfl) ?_
              refine lv_dup hx hb dX12_call_200 rfl ?_
              refine va_get (D := D) (ci := 12) (v := .int (S19 37 0)) (C := RX12) (T := TX12) (N := 52) hx hb hts (fun _ h => List.mem_cons_of_mem _ (List.mem_append_right _ h)) hown hK hP 0 rfl rfl 37 (by decide) (hts (.fieldLink RX12 236 "TemplateForgeModel" "open" "I") (List.mem_of_getElem? (i := 1) rfl)) (fun _ h9 => h9) rfl dX12_call_201 ?_
              refine lv_iconst (v := 1) hx hb dX12_call_204 (by decide) ?_
              refine lv_iadd hx hb dX12_call_205 ?_
              refine va_put (D := D) (ci := 12) (v := .int ((S19 37 0) + 1)) (ty := .int) (C := RX12) (T := TX12) (N := 52) hx hb hts (fun _ h => List.mem_cons_of_mem _ (List.mem_append_right _ h)) tyX12 tyX12_ok nmX12 hown hK hP hD hS 0 rfl rfl 37 (by decide) (hts (.fieldLink RX12 236 "TemplateForgeModel" "open" "I") (List.mem_of_getElem? (i := 1) rfl)) (fun _ h9 => h9) rfl (by decide +kernel) rfl rfl (Nat.le_of_ble_eq_true rfl) dX12_call_206 (fun H locs hP hD hS => ?_)
              obtain ⟨S20, eS20⟩ : ∃ z, z = ms S19 37 (fun _ => (S19 37 0) + 1) := ⟨_, rfl⟩
              have hP : va_P D vwCl (mW cI cZ h0 q S20) H := by rw [eS20]; exact hP
              have hD : va_D A (mW cI cZ h0 q S20) := by rw [eS20]; exact hD
              have h := h S20 eS20
              exact W.vret hx hb hr (fun t ht hW => ⟨⟨S20, rfl, h, by rw [ht]; exact hP, hD⟩, hS.F ht⟩) hS.2.2 dX12_call_209
          have LP_93 : ∀ (n_93 : Nat), ∀ (S_93 : MST) (x93_1 : Int32) (x93_3 : Int32) (x93_5 : Int32) (x93_6 : Int32) (H : Heap) (locs : List Loc) (ls : Array Slot), wl_X12_call_r_93 (fun S_140 x140_1 x140_3 x140_5 => vp_in x140_1 8 ∧ (((((S_140 15 (x140_1 : Int32).toNatClampNeg) : Int32) = 0) → (vp_in x140_5 16 ∧ (∀ S12 : MST, S12 = ms S_140 40 (upd (S_140 40) (x140_5 : Int32).toNatClampNeg (-1)) → (wp_X12_remember_r S12 x140_1 x140_3 (fun S13 => ∀ S14 : MST, S14 = ms S13 37 (fun _ => (S13 37 0) + 1) → (Post S14)))))) ∧ ((¬ (((S_140 15 (x140_1 : Int32).toNatClampNeg) : Int32) = 0)) → (wp_X12_codeNow S20 x140_1 (fun r15 => vp_in x140_5 16 ∧ (∀ S16 : MST, S16 = ms S_140 40 (upd (S_140 40) (x140_5 : Int32).toNatClampNeg r15) → (vp_in x140_1 8 ∧ (vp_in x140_1 8 ∧ (∀ S18 : MST, S18 = ms S16 19 (upd (S16 19) (x140_1 : Int32).toNatClampNeg ((S16 19 (x140_1 : Int32).toNatClampNeg) + 1)) → (∀ S19 : MST, S19 = ms S18 46 (fun _ => (S18 46 0) + 1) → (∀ S20 : MST, S20 = ms S19 37 (fun _ => (S19 37 0) + 1) → (Post S20)))))))))))) Post n_93 S_93 x93_1 x93_3 x93_5 x93_6 → va_P D vwCl (mW cI cZ h0 q S_93) H → va_D A (mW cI cZ h0 q S_93) → va_S A s.heap H locs → lv_has ls 7 [(0, .ref h0), (1, .int x93_1), (2, .ref (q 42)), (3, .int x93_3), (5, .int x93_5), (6, .int x93_6)] → W p l e (headSpec zw_zd_X12_call_r ({ frames := 6, cells := 0, slots := 0, locals := 139 })).room s m ([.ref h0, .int a1, .ref (q 42), .int a3, .int a4] : List Value).toArray below meth c H locs 0 0 (MQ below (va_Qv (fun S' => Post S') (fun (S' : MST) t => va_P D vwCl (mW cI cZ h0 q S') t.heap ∧ va_D A (mW cI cZ h0 q S')) A) ([.ref h0, .int a1, .ref (q 42), .int a3, .int a4] : List Value).toArray s 0 0 A) (F0 m 93 ls []) := by
            intro n_93
            induction n_93 with
            | zero =>
              intro S_93 x93_1 x93_3 x93_5 x93_6 H locs ls h hP hD hS hl
              exact False.elim h
            | succ n_93 ih_93 =>
              intro S_93 x93_1 x93_3 x93_5 x93_6 H locs ls h hP hD hS hl
              unfold wl_X12_call_r_93 at h
              refine lv_iload hx hb dX12_call_93 (lv_at hl 5 rfl) ?_
              refine lv_bipush (v := 15) hx hb dX12_call_95 (by decide) ?_
              refine lv_icmp_ge (tgt := 140) hx hb dX12_call_97 (by decide) (fun c_21 => ?_) (fun c_21 => ?_)
              · have h := h.1 c_21
                exact EX_93_140  S_93 x93_1 x93_3 x93_5 H locs _ h hP hD hS (lv_sub hl [0, 1, 2, 3, 4] rfl)
              · have h := h.2 c_21
                refine lv_aload_n hx hb dX12_call_100 rfl (lv_at hl 0 rfl) ?_
                refine va_get (D := D) (ci := 12) (v := .ref (q 42)) (C := RX12) (T := TX12) (N := 52) hx hb hts (fun _ h => List.mem_cons_of_mem _ (List.mem_append_right _ h)) hown hK hP 0 rfl rfl 42 (by decide) (hts (.fieldLink RX12 123 "TemplateForgeModel" "register" "[I") (List.mem_of_getElem? (i := 31) rfl)) (fun _ h9 => h9) rfl dX12_call_101 ?_
                refine lv_bipush (v := 15) hx hb dX12_call_104 (by decide) ?_
                refine lv_iload hx hb dX12_call_106 (lv_at hl 4 rfl) ?_
                refine lv_imul hx hb dX12_call_108 ?_
                refine lv_iload hx hb dX12_call_109 (lv_at hl 5 rfl) ?_
                refine lv_iadd hx hb dX12_call_111 ?_
                refine lv_iload hx hb dX12_call_112 (lv_at hl 5 rfl) ?_
                refine lv_aload_n hx hb dX12_call_114 rfl (lv_at hl 0 rfl) ?_
                refine va_get (D := D) (ci := 12) (v := .ref (q 1)) (C := RX12) (T := TX12) (N := 52) hx hb hts (fun _ h => List.mem_cons_of_mem _ (List.mem_append_right _ h)) hown hK hP 0 rfl rfl 1 (by decide) (hts (.fieldLink RX12 7 "TemplateForgeModel" "args" "[I") (List.mem_of_getElem? (i := 20) rfl)) (fun _ h9 => h9) rfl dX12_call_115 ?_
                refine lv_iload_n hx hb dX12_call_118 rfl (lv_at hl 1 rfl) ?_
                have hin_22 := h.1
                have h := h.2
                refine va_iald hx hb hK hP 1 0 rfl rfl hin_22 dX12_call_119 ?_
                refine lv_icmp_ge (tgt := 132) hx hb dX12_call_120 (by decide) (fun c_23 => ?_) (fun c_23 => ?_)
                · have h := h.1 c_23
                  refine lv_iconst (v := 0) hx hb dX12_call_132 (by decide) ?_
                  have hin_24 := h.1
                  have h := h.2
                  refine va_iast hx hb hK hP hD hS 38 0 rfl rfl hin_24 dX12_call_133 (fun H locs hP hD hS => ?_)
                  obtain ⟨S24, eS24⟩ : ∃ z, z = ms S_93 42 (upd (S_93 42) ((15 * x93_5) + x93_6 : Int32).toNatClampNeg 0) := ⟨_, rfl⟩
                  have hP : va_P D vwCl (mW cI cZ h0 q S24) H := by rw [eS24]; exact hP
                  have hD : va_D A (mW cI cZ h0 q S24) := by rw [eS24]; exact hD
                  have h := h S24 eS24
                  refine lv_iinc (v := x93_6 + 1) (lv' := [(6, .int (x93_6 + 1)), (0, .ref h0), (1, .int x93_1), (2, .ref (q 42)), (3, .int x93_3), (5, .int x93_5)]) hx hb dX12_call_134 hl (k := 5) rfl rfl (by decide) rfl (fun ls hl => ?_)
                  refine lv_goto (tgt := 93) hx hb dX12_call_137 (by decide) ?_
                  exact ih_93  S24 x93_1 x93_3 x93_5 (x93_6 + 1) H locs _ h hP hD hS (lv_sub hl [1, 2, 3, 4, 5, 0] rfl)
                · have h := h.2 c_23
                  refine lv_aload_n hx hb dX12_call_123 rfl (lv_at hl 2 rfl) ?_
                  refine lv_iload_n hx hb dX12_call_124 rfl (lv_at hl 3 rfl) ?_
                  refine lv_iload hx hb dX12_call_125 (lv_at hl 5 rfl) ?_
                  refine lv_iadd hx hb dX12_call_127 ?_
                  have hin_25 := h.1
                  have h := h.2
                  refine va_iald hx hb hK hP 38 0 rfl rfl hin_25 dX12_call_128 ?_
                  refine lv_goto (tgt := 133) hx hb dX12_call_129 (by decide) ?_
                  have hin_26 := h.1
                  have h := h.2
                  refine va_iast hx hb hK hP hD hS 38 0 rfl rfl hin_26 dX12_call_133 (fun H locs hP hD hS => ?_)
                  obtain ⟨S26, eS26⟩ : ∃ z, z = ms S_93 42 (upd (S_93 42) ((15 * x93_5) + x93_6 : Int32).toNatClampNeg (S_93 42 (x93_3 + x93_6 : Int32).toNatClampNeg)) := ⟨_, rfl⟩
                  have hP : va_P D vwCl (mW cI cZ h0 q S26) H := by rw [eS26]; exact hP
                  have hD : va_D A (mW cI cZ h0 q S26) := by rw [eS26]; exact hD
                  have h := h S26 eS26
                  refine lv_iinc (v := x93_6 + 1) (lv' := [(6, .int (x93_6 + 1)), (0, .ref h0), (1, .int x93_1), (2, .ref (q 42)), (3, .int x93_3), (5, .int x93_5)]) hx hb dX12_call_134 hl (k := 5) rfl rfl (by decide) rfl (fun ls hl => ?_)
                  refine lv_goto (tgt := 93) hx hb dX12_call_137 (by decide) ?_
                  exact ih_93  S26 x93_1 x93_3 x93_5 (x93_6 + 1) H locs _ h hP hD hS (lv_sub hl [1, 2, 3, 4, 5, 0] rfl)
          obtain ⟨n_93, h⟩ := h
          exact LP_93 n_93 S9 a1 a3 (S4 37 0) 0 H locs _ h hP hD hS (lv_sub hl [2, 3, 4, 5, 1, 0] rfl)
        · have h := h.2 c_6
          refine lv_aload_n hx hb dX12_call_45 rfl (lv_at hl 0 rfl) ?_
          refine va_get (D := D) (ci := 12) (v := .ref (q 16)) (C := RX12) (T := TX12) (N := 52) hx hb hts (fun _ h => List.mem_cons_of_mem _ (List.mem_append_right _ h)) hown hK hP 0 rfl rfl 16 (by decide) (hts (.fieldLink RX12 53 "TemplateForgeModel" "counted" "[I") (List.mem_of_getElem? (i := 16) rfl)) (fun _ h9 => h9) rfl dX12_call_46 ?_
          refine lv_iload_n hx hb dX12_call_49 rfl (lv_at hl 1 rfl) ?_
          have hin_27 := h.1
          have h := h.2
          refine va_iald hx hb hK hP 15 0 rfl rfl hin_27 dX12_call_50 ?_
          refine lv_iconst (v := 3) hx hb dX12_call_51 (by decide) ?_
          refine lv_icmp_ne (tgt := 60) hx hb dX12_call_52 (by decide) (fun c_28 => ?_) (fun c_28 => ?_)
          · have h := h.1 c_28
            refine lv_aload_n hx hb dX12_call_60 rfl (lv_at hl 0 rfl) ?_
            refine va_get (D := D) (ci := 12) (v := .int (S4 37 0)) (C := RX12) (T := TX12) (N := 52) hx hb hts (fun _ h => List.mem_cons_of_mem _ (List.mem_append_right _ h)) hown hK hP 0 rfl rfl 37 (by decide) (hts (.fieldLink RX12 236 "TemplateForgeModel" "open" "I") (List.mem_of_getElem? (i := 1) rfl)) (fun _ h9 => h9) rfl dX12_call_61 ?_
            refine lv_istore (lv' := [(5, .int (S4 37 0)), (0, .ref h0), (1, .int a1), (2, .ref (q 42)), (3, .int a3), (4, .int a4)]) hx hb dX12_call_64 hl (by decide) rfl (fun ls hl => ?_)
            refine lv_aload_n hx hb dX12_call_66 rfl (lv_at hl 1 rfl) ?_
            refine va_get (D := D) (ci := 12) (v := .ref (q 38)) (C := RX12) (T := TX12) (N := 52) hx hb hts (fun _ h => List.mem_cons_of_mem _ (List.mem_append_right _ h)) hown hK hP 0 rfl rfl 38 (by decide) (hts (.fieldLink RX12 111 "TemplateForgeModel" "frameMethod" "[I") (List.mem_of_getElem? (i := 11) rfl)) (fun _ h9 => h9) rfl dX12_call_67 ?_
            refine lv_iload hx hb dX12_call_70 (lv_at hl 0 rfl) ?_
            refine lv_iload_n hx hb dX12_call_72 rfl (lv_at hl 2 rfl) ?_
            have hin_29 := h.1
            have h := h.2
            refine va_iast hx hb hK hP hD hS 34 0 rfl rfl hin_29 dX12_call_73 (fun H locs hP hD hS => ?_)
            obtain ⟨S29, eS29⟩ : ∃ z, z = ms S4 38 (upd (S4 38) (S4 37 0 : Int32).toNatClampNeg a1) := ⟨_, rfl⟩
            have hP : va_P D vwCl (mW cI cZ h0 q S29) H := by rw [eS29]; exact hP
            have hD : va_D A (mW cI cZ h0 q S29) := by rw [eS29]; exact hD
            have h := h S29 eS29
            refine lv_aload_n hx hb dX12_call_74 rfl (lv_at hl 1 rfl) ?_
            refine va_get (D := D) (ci := 12) (v := .ref (q 39)) (C := RX12) (T := TX12) (N := 52) hx hb hts (fun _ h => List.mem_cons_of_mem _ (List.mem_append_right _ h)) hown hK hP 0 rfl rfl 39 (by decide) (hts (.fieldLink RX12 114 "TemplateForgeModel" "frameAt" "[I") (List.mem_of_getElem? (i := 12) rfl)) (fun _ h9 => h9) rfl dX12_call_75 ?_
            refine lv_iload hx hb dX12_call_78 (lv_at hl 0 rfl) ?_
            refine lv_iconst (v := 0) hx hb dX12_call_80 (by decide) ?_
            have hin_30 := h.1
            have h := h.2
            refine va_iast hx hb hK hP hD hS 35 0 rfl rfl hin_30 dX12_call_81 (fun H locs hP hD hS => ?_)
            obtain ⟨S30, eS30⟩ : ∃ z, z = ms S29 39 (upd (S29 39) (S4 37 0 : Int32).toNatClampNeg 0) := ⟨_, rfl⟩
            have hP : va_P D vwCl (mW cI cZ h0 q S30) H := by rw [eS30]; exact hP
            have hD : va_D A (mW cI cZ h0 q S30) := by rw [eS30]; exact hD
            have h := h S30 eS30
            refine lv_aload_n hx hb dX12_call_82 rfl (lv_at hl 1 rfl) ?_
            refine va_get (D := D) (ci := 12) (v := .ref (q 41)) (C := RX12) (T := TX12) (N := 52) hx hb hts (fun _ h => List.mem_cons_of_mem _ (List.mem_append_right _ h)) hown hK hP 0 rfl rfl 41 (by decide) (hts (.fieldLink RX12 120 "TemplateForgeModel" "frameDepth" "[I") (List.mem_of_getElem? (i := 13) rfl)) (fun _ h9 => h9) rfl dX12_call_83 ?_
            refine lv_iload hx hb dX12_call_86 (lv_at hl 0 rfl) ?_
            refine lv_iconst (v := 0) hx hb dX12_call_88 (by decide) ?_
            have hin_31 := h.1
            have h := h.2
            refine va_iast hx hb hK hP hD hS 37 0 rfl rfl hin_31 dX12_call_89 (fun H locs hP hD hS => ?_)
            obtain ⟨S31, eS31⟩ : ∃ z, z = ms S30 41 (upd (S30 41) (S4 37 0 : Int32).toNatClampNeg 0) := ⟨_, rfl⟩
            have hP : va_P D vwCl (mW cI cZ h0 q S31) H := by rw [eS31]; exact hP
            have hD : va_D A (mW cI cZ h0 q S31) := by rw [eS31]; exact hD
            have h := h S31 eS31
            refine lv_iconst (v := 0) hx hb dX12_call_90 (by decide) ?_
            refine lv_istore (lv' := [(6, .int 0), (5, .int (S4 37 0)), (0, .ref h0), (1, .int a1), (2, .ref (q 42)), (3, .int a3), (4, .int a4)]) hx hb dX12_call_91 hl (by decide) rfl (fun ls hl => ?_)
            have EX_93_140 : ∀ (S_140 : MST) (x140_1 : Int32) (x140_3 : Int32) (x140_5 : Int32) (H : Heap) (locs : List Loc) (ls : Array Slot), (vp_in x140_1 8 ∧ (((((S_140 15 (x140_1 : Int32).toNatClampNeg) : Int32) = 0) → (vp_in x140_5 16 ∧ (∀ S34 : MST, S34 = ms S_140 40 (upd (S_140 40) (x140_5 : Int32).toNatClampNeg (-1)) → (wp_X12_remember_r S34 x140_1 x140_3 (fun S35 => ∀ S36 : MST, S36 = ms S35 37 (fun _ => (S35 37 0) + 1) → (Post S36)))))) ∧ ((¬ (((S_140 15 (x140_1 : Int32).toNatClampNeg) : Int32) = 0)) → (wp_X12_codeNow S42 x140_1 (fun r37 => vp_in x140_5 16 ∧ (∀ S38 : MST, S38 = ms S_140 40 (upd (S_140 40) (x140_5 : Int32).toNatClampNeg r37) → (vp_in x140_1 8 ∧ (vp_in x140_1 8 ∧ (∀ S40 : MST, S40 = ms S38 19 (upd (S38 19) (x140_1 : Int32).toNatClampNeg ((S38 19 (x140_1 : Int32).toNatClampNeg) + 1)) → (∀ S41 : MST, S41 = ms S40 46 (fun _ => (S40 46 0) + 1) → (∀ S42 : MST, S42 = ms S41 37 (fun _ => (S41 37 0) + 1) → (Post S42)))))))))))) → va_P D vwCl (mW cI cZ h0 q S_140) H → va_D A (mW cI cZ h0 q S_140) → va_S A s.heap H locs → lv_has ls 7 [(0, .ref h0), (1, .int x140_1), (2, .ref (q 42)), (3, .int x140_3), (5, .int x140_5)] → W p l e (headSpec zw_zd_X12_call_r ({ frames := 6, cells := 0, slots := 0, locals := 139 })).room s m ([.ref h0, .int a1, .ref (q 42), .int a3, .int a4] : List Value).toArray below meth c H locs 0 0 (MQ below (va_Qv (fun S' => Post S') (fun (S' : MST) t => va_P D vwCl (mW cI cZ h0 q S') t.heap ∧ va_D A (mW cI cZ h0 q S')) A) ([.ref h0, .int a1, .ref (q 42), .int a3, .int a4] : List Value).toArray s 0 0 A) (F0 m 140 ls []) := by
              intro S_140 x140_1 x140_3 x140_5 H locs ls h hP hD hS hl
              refine lv_aload_n hx hb dX12_call_140 rfl (lv_at hl 0 rfl) ?_
              refine va_get (D := D) (ci := 12) (v := .ref (q 15)) (C := RX12) (T := TX12) (N := 52) hx hb hts (fun _ h => List.mem_cons_of_mem _ (List.mem_append_right _ h)) hown hK hP 0 rfl rfl 15 (by decide) (hts (.fieldLink RX12 50 "TemplateForgeModel" "hasCode" "[Z") (List.mem_of_getElem? (i := 10) rfl)) (fun _ h9 => h9) rfl dX12_call_141 ?_
              refine lv_iload_n hx hb dX12_call_144 rfl (lv_at hl 1 rfl) ?_
              have hin_32 := h.1
              have h := h.2
              refine va_zald hx hb hK hP 14 1 rfl rfl hin_32 dX12_call_145 ?_
              refine lv_if_eq (tgt := 184) hx hb dX12_call_146 (by decide) (fun c_33 => ?_) (fun c_33 => ?_)
              · have h := h.1 c_33
                refine lv_aload_n hx hb dX12_call_184 rfl (lv_at hl 0 rfl) ?_
                refine va_get (D := D) (ci := 12) (v := .ref (q 40)) (C := RX12) (T := TX12) (N := 52) hx hb hts (fun _ h => List.mem_cons_of_mem _ (List.mem_append_right _ h)) hown hK hP 0 rfl rfl 40 (by decide) (hts (.fieldLink RX12 117 "TemplateForgeModel" "frameCode" "[I") (List.mem_of_getElem? (i := 14) rfl)) (fun _ h9 => h9) rfl dX12_call_185 ?_
                refine lv_iload hx hb dX12_call_188 (lv_at hl 4 rfl) ?_
                refine lv_iconst (v := (-1)) hx hb dX12_call_190 (by decide) ?_
                have hin_34 := h.1
                have h := h.2
                refine va_iast hx hb hK hP hD hS 36 0 rfl rfl hin_34 dX12_call_191 (fun H locs hP hD hS => ?_)
                obtain ⟨S34, eS34⟩ : ∃ z, z = ms S_140 40 (upd (S_140 40) (x140_5 : Int32).toNatClampNeg (-1)) := ⟨_, rfl⟩
                have hP : va_P D vwCl (mW cI cZ h0 q S34) H := by rw [eS34]; exact hP
                have hD : va_D A (mW cI cZ h0 q S34) := by rw [eS34]; exact hD
                have h := h S34 eS34
                refine lv_aload_n hx hb dX12_call_192 rfl (lv_at hl 0 rfl) ?_
                refine lv_iload_n hx hb dX12_call_193 rfl (lv_at hl 1 rfl) ?_
                refine lv_aload_n hx hb dX12_call_194 rfl (lv_at hl 2 rfl) ?_
                refine lv_iload_n hx hb dX12_call_195 rfl (lv_at hl 3 rfl) ?_
                have hFc := zm_free hD hS hA
                refine va_callv (va_runV (As := [.int x140_1, .ref (q 42), .int x140_3]) (rest := []) ⟨hx, hb, hml, hown, hts⟩ (zd_X12_remember_r l D cI cZ cP cF h0 q S34 x140_1 x140_3 H.size _ h) (cwV 3 hts zg_zd_X12_call_r_zd_X12_remember_r_255 rfl rfl rfl (by decide +kernel) ⟨Nat.le_of_ble_eq_true rfl, Nat.le_of_ble_eq_true rfl⟩) ⟨zBW, va_recv hK hP (ci := 12) (q0 := 0) rfl rfl, fun U hU hW => ⟨rfl, by rw [hU], by rw [hU]; exact hP, hE.warm hW, hD.weaken (fun _ _ _ _ => trivial)⟩⟩ rfl rfl hl.1 rfl (lv_room (Nat.le_of_ble_eq_true rfl)) dX12_call_196 ⟨Nat.le_of_ble_eq_true rfl, Nat.le_of_ble_eq_true rfl⟩) hS (fun q _ h => hFc q h) hFc (fun S35 t H locs ht hvm h hB hz1 hk1 hS => ?_)
                obtain ⟨hP, hD1⟩ := hB
                rw [ht] at hP
                have hD := hD1.weaken (fun k q _ hq => hFc q.1 hq)
                refine lv_aload_n hx hb dX12_call_199 rfl (lv_at hl 0 rfl) ?_
                refine lv_dup hx hb dX12_call_200 rfl ?_
                refine va_get (D := D) (ci := 12) (v := .int (S35 37 0)) (C := RX12) (T := TX12) (N := 52) hx hb hts (fun _ h => List.mem_cons_of_mem _ (List.mem_append_right _ h)) hown hK hP 0 rfl rfl 37 (by decide) (hts (.fieldLink RX12 236 "TemplateForgeModel" "open" "I") (List.mem_of_getElem? (i := 1) rfl)) (fun _ h9 => h9) rfl dX12_call_201 ?_
                refine lv_iconst (v := 1) hx hb dX12_call_204 (by decide) ?_
                refine lv_iadd hx hb dX12_call_205 ?_
                refine va_put (D := D) (ci := 12) (v := .int ((S35 37 0) + 1)) (ty := .int) (C := RX12) (T := TX12) (N := 52) hx hb hts (fun _ h => List.mem_cons_of_mem _ (List.mem_append_right _ h)) tyX12 tyX12_ok nmX12 hown hK hP hD hS 0 rfl rfl 37 (by decide) (hts (.fieldLink RX12 236 "TemplateForgeModel" "open" "I") (List.mem_of_getElem? (i := 1) rfl)) (fun _ h9 => h9) rfl (by decide +kernel) rfl rfl (Nat.le_of_ble_eq_true rfl) dX12_call_206 (fun H locs hP hD hS => ?_)
                obtain ⟨S36, eS36⟩ : ∃ z, z = ms S35 37 (fun _ => (S35 37 0) + 1) := ⟨_, rfl⟩
                have hP : va_P D vwCl (mW cI cZ h0 q S36) H := by rw [eS36]; exact hP
                have hD : va_D A (mW cI cZ h0 q S36) := by rw [eS36]; exact hD
                have h := h S36 eS36
                exact W.vret hx hb hr (fun t ht hW => ⟨⟨S36, rfl, h, by rw [ht]; exact hP, hD⟩, hS.F ht⟩) hS.2.2 dX12_call_209
              · have h := h.2 c_33
                refine lv_aload_n hx hb dX12_call_149 rfl (lv_at hl 0 rfl) ?_
                refine va_get (D := D) (ci := 12) (v := .ref (q 40)) (C := RX12) (T := TX12) (N := 52) hx hb hts (fun _ h => List.mem_cons_of_mem _ (List.mem_append_right _ h)) hown hK hP 0 rfl rfl 40 (by decide) (hts (.fieldLink RX12 117 "TemplateForgeModel" "frameCode" "[I") (List.mem_of_getElem? (i := 14) rfl)) (fun _ h9 => h9) rfl dX12_call_150 ?_
                refine lv_iload hx hb dX12_call_153 (lv_at hl 4 rfl) ?_
                refine lv_aload_n hx hb dX12_call_155 rfl (lv_at hl 0 rfl) ?_
                refine lv_iload_n hx hb dX12_call_156 rfl (lv_at hl 1 rfl) ?_
                refine vp_callSi (va_Run.run (va_runV (As := [.int x140_1]) (rest := [.int x140_5, .ref (q 40)]) ⟨hx, hb, hml, hown, hts⟩ (zd_X12_codeNow l D cI cZ cP cF h0 q S_140 x140_1  _ h) (cwV 1 hts zg_zd_X12_call_r_zd_X12_codeNow_217 rfl rfl rfl (by decide +kernel) ⟨Nat.le_of_ble_eq_true rfl, Nat.le_of_ble_eq_true rfl⟩) ⟨zBR, va_recv hK hP (ci := 12) (q0 := 0) rfl rfl, fun U hU hW => ⟨rfl, by rw [hU]; exact hP, hE.warm hW⟩⟩ rfl rfl hl.1 rfl (lv_room (Nat.le_of_ble_eq_true rfl)) dX12_call_157 ⟨Nat.le_of_ble_eq_true rfl, Nat.le_of_ble_eq_true rfl⟩)) (fun r37 h => ?_)
                have hin_38 := h.1
                have h := h.2
                refine va_iast hx hb hK hP hD hS 36 0 rfl rfl hin_38 dX12_call_160 (fun H locs hP hD hS => ?_)
                obtain ⟨S38, eS38⟩ : ∃ z, z = ms S_140 40 (upd (S_140 40) (x140_5 : Int32).toNatClampNeg r37) := ⟨_, rfl⟩
                have hP : va_P D vwCl (mW cI cZ h0 q S38) H := by rw [eS38]; exact hP
                have hD : va_D A (mW cI cZ h0 q S38) := by rw [eS38]; exact hD
                have h := h S38 eS38
                refine lv_aload_n hx hb dX12_call_161 rfl (lv_at hl 0 rfl) ?_
                refine va_get (D := D) (ci := 12) (v := .ref (q 19)) (C := RX12) (T := TX12) (N := 52) hx hb hts (fun _ h => List.mem_cons_of_mem _ (List.mem_append_right _ h)) hown hK hP 0 rfl rfl 19 (by decide) (hts (.fieldLink RX12 62 "TemplateForgeModel" "codeCalls" "[I") (List.mem_of_getElem? (i := 29) rfl)) (fun _ h9 => h9) rfl dX12_call_162 ?_
                refine lv_iload_n hx hb dX12_call_165 rfl (lv_at hl 1 rfl) ?_
                refine lv_dup2_11 hx hb dX12_call_166 rfl rfl ?_
                have hin_39 := h.1
                have h := h.2
                refine va_iald hx hb hK hP 18 0 rfl rfl hin_39 dX12_call_167 ?_
                refine lv_iconst (v := 1) hx hb dX12_call_168 (by decide) ?_
                refine lv_iadd hx hb dX12_call_169 ?_
                have hin_40 := h.1
                have h := h.2
                refine va_iast hx hb hK hP hD hS 18 0 rfl rfl hin_40 dX12_call_170 (fun H locs hP hD hS => ?_)
                obtain ⟨S40, eS40⟩ : ∃ z, z = ms S38 19 (upd (S38 19) (x140_1 : Int32).toNatClampNeg ((S38 19 (x140_1 : Int32).toNatClampNeg) + 1)) := ⟨_, rfl⟩
                have hP : va_P D vwCl (mW cI cZ h0 q S40) H := by rw [eS40]; exact hP
                have hD : va_D A (mW cI cZ h0 q S40) := by rw [eS40]; exact hD
                have h := h S40 eS40
                refine lv_aload_n hx hb dX12_call_171 rfl (lv_at hl 0 rfl) ?_
                refine lv_dup hx hb dX12_call_172 rfl ?_
                refine va_get (D := D) (ci := 12) (v := .int (S40 46 0)) (C := RX12) (T := TX12) (N := 52) hx hb hts (fun _ h => List.mem_cons_of_mem _ (List.mem_append_right _ h)) hown hK hP 0 rfl rfl 46 (by decide) (hts (.fieldLink RX12 252 "TemplateForgeModel" "callsByCode" "I") (List.mem_of_getElem? (i := 30) rfl)) (fun _ h9 => h9) rfl dX12_call_173 ?_
                refine lv_iconst (v := 1) hx hb dX12_call_176 (by decide) ?_
                refine lv_iadd hx hb dX12_call_177 ?_
                refine va_put (D := D) (ci := 12) (v := .int ((S40 46 0) + 1)) (ty := .int) (C := RX12) (T := TX12) (N := 52) hx hb hts (fun _ h => List.mem_cons_of_mem _ (List.mem_append_right _ h)) tyX12 tyX12_ok nmX12 hown hK hP hD hS 0 rfl rfl 46 (by decide) (hts (.fieldLink RX12 252 "TemplateForgeModel" "callsByCode" "I") (List.mem_of_getElem? (i := 30) rfl)) (fun _ h9 => h9) rfl (by decide +kernel) rfl rfl (Nat.le_of_ble_eq_true rfl) dX12_call_178 (fun H locs hP hD hS => ?_)
                obtain ⟨S41, eS41⟩ : ∃ z, z = ms S40 46 (fun _ => (S40 46 0) + 1) := ⟨_, rfl⟩
                have hP : va_P D vwCl (mW cI cZ h0 q S41) H := by rw [eS41]; exact hP
                have hD : va_D A (mW cI cZ h0 q S41) := by rw [eS41]; exact hD
                have h := h S41 eS41
                refine lv_goto (tgt := 199) hx hb dX12_call_181 (by decide) ?_
                refine lv_aload_n hx hb dX12_call_199 rfl (lv_at hl 0 rfl) ?_
                refine lv_dup hx hb dX12_call_200 rfl ?_
                refine va_get (D := D) (ci := 12) (v := .int (S41 37 0)) (C := RX12) (T := TX12) (N := 52) hx hb hts (fun _ h => List.mem_cons_of_mem _ (List.mem_append_right _ h)) hown hK hP 0 rfl rfl 37 (by decide) (hts (.fieldLink RX12 236 "TemplateForgeModel" "open" "I") (List.mem_of_getElem? (i := 1) rfl)) (fun _ h9 => h9) rfl dX12_call_201 ?_
                refine lv_iconst (v := 1) hx hb dX12_call_204 (by decide) ?_
                refine lv_iadd hx hb dX12_call_205 ?_
                refine va_put (D := D) (ci := 12) (v := .int ((S41 37 0) + 1)) (ty := .int) (C := RX12) (T := TX12) (N := 52) hx hb hts (fun _ h => List.mem_cons_of_mem _ (List.mem_append_right _ h)) tyX12 tyX12_ok nmX12 hown hK hP hD hS 0 rfl rfl 37 (by decide) (hts (.fieldLink RX12 236 "TemplateForgeModel" "open" "I") (List.mem_of_getElem? (i := 1) rfl)) (fun _ h9 => h9) rfl (by decide +kernel) rfl rfl (Nat.le_of_ble_eq_true rfl) dX12_call_206 (fun H locs hP hD hS => ?_)
                obtain ⟨S42, eS42⟩ : ∃ z, z = ms S41 37 (fun _ => (S41 37 0) + 1) := ⟨_, rfl⟩
                have hP : va_P D vwCl (mW cI cZ h0 q S42) H := by rw [eS42]; exact hP
                have hD : va_D A (mW cI cZ h0 q S42) := by rw [eS42]; exact hD
                have h := h S42 eS42
                exact W.vret hx hb hr (fun t ht hW => ⟨⟨S42, rfl, h, by rw [ht]; exact hP, hD⟩, hS.F ht⟩) hS.2.2 dX12_call_209
            have LP_93 : ∀ (n_93 : Nat), ∀ (S_93 : MST) (x93_1 : Int32) (x93_3 : Int32) (x93_5 : Int32) (x93_6 : Int32) (H : Heap) (locs : List Loc) (ls : Array Slot), wl_X12_call_r_93 (fun S_140 x140_1 x140_3 x140_5 => vp_in x140_1 8 ∧ (((((S_140 15 (x140_1 : Int32).toNatClampNeg) : Int32) = 0) → (vp_in x140_5 16 ∧ (∀ S34 : MST, S34 = ms S_140 40 (upd (S_140 40) (x140_5 : Int32).toNatClampNeg (-1)) → (wp_X12_remember_r S34 x140_1 x140_3 (fun S35 => ∀ S36 : MST, S36 = ms S35 37 (fun _ => (S35 37 0) + 1) → (Post S36)))))) ∧ ((¬ (((S_140 15 (x140_1 : Int32).toNatClampNeg) : Int32) = 0)) → (wp_X12_codeNow S42 x140_1 (fun r37 => vp_in x140_5 16 ∧ (∀ S38 : MST, S38 = ms S_140 40 (upd (S_140 40) (x140_5 : Int32).toNatClampNeg r37) → (vp_in x140_1 8 ∧ (vp_in x140_1 8 ∧ (∀ S40 : MST, S40 = ms S38 19 (upd (S38 19) (x140_1 : Int32).toNatClampNeg ((S38 19 (x140_1 : Int32).toNatClampNeg) + 1)) → (∀ S41 : MST, S41 = ms S40 46 (fun _ => (S40 46 0) + 1) → (∀ S42 : MST, S42 = ms S41 37 (fun _ => (S41 37 0) + 1) → (Post S42)))))))))))) Post n_93 S_93 x93_1 x93_3 x93_5 x93_6 → va_P D vwCl (mW cI cZ h0 q S_93) H → va_D A (mW cI cZ h0 q S_93) → va_S A s.heap H locs → lv_has ls 7 [(0, .ref h0), (1, .int x93_1), (2, .ref (q 42)), (3, .int x93_3), (5, .int x93_5), (6, .int x93_6)] → W p l e (headSpec zw_zd_X12_call_r ({ frames := 6, cells := 0, slots := 0, locals := 139 })).room s m ([.ref h0, .int a1, .ref (q 42), .int a3, .int a4] : List Value).toArray below meth c H locs 0 0 (MQ below (va_Qv (fun S' => Post S') (fun (S' : MST) t => va_P D vwCl (mW cI cZ h0 q S') t.heap ∧ va_D A (mW cI cZ h0 q S')) A) ([.ref h0, .int a1, .ref (q 42), .int a3, .int a4] : List Value).toArray s 0 0 A) (F0 m 93 ls []) := by
              intro n_93
              induction n_93 with
              | zero =>
                intro S_93 x93_1 x93_3 x93_5 x93_6 H locs ls h hP hD hS hl
                exact False.elim h
              | succ n_93 ih_93 =>
                intro S_93 x93_1 x93_3 x93_5 x93_6 H locs ls h hP hD hS hl
                unfold wl_X12_call_r_93 at h
                refine lv_iload hx hb dX12_call_93 (lv_at hl 5 rfl) ?_
                refine lv_bipush (v := 15) hx hb dX12_call_95 (by decide) ?_
                refine lv_icmp_ge (tgt := 140) hx hb dX12_call_97 (by decide) (fun c_43 => ?_) (fun c_43 => ?_)
                · have h := h.1 c_43
                  exact EX_93_140  S_93 x93_1 x93_3 x93_5 H locs _ h hP hD hS (lv_sub hl [0, 1, 2, 3, 4] rfl)
                · have h := h.2 c_43
                  refine lv_aload_n hx hb dX12_call_100 rfl (lv_at hl 0 rfl) ?_
                  refine va_get (D := D) (ci := 12) (v := .ref (q 42)) (C := RX12) (T := TX12) (N := 52) hx hb hts (fun _ h => List.mem_cons_of_mem _ (List.mem_append_right _ h)) hown hK hP 0 rfl rfl 42 (by decide) (hts (.fieldLink RX12 123 "TemplateForgeModel" "register" "[I") (List.mem_of_getElem? (i := 31) rfl)) (fun _ h9 => h9) rfl dX12_call_101 ?_
                  refine lv_bipush (v := 15) hx hb dX12_call_104 (by decide) ?_
                  refine lv_iload hx hb dX12_call_106 (lv_at hl 4 rfl) ?_
                  refine lv_imul hx hb dX12_call_108 ?_
                  refine lv_iload hx hb dX12_call_109 (lv_at hl 5 rfl) ?_
                  refine lv_iadd hx hb dX12_call_111 ?_
                  refine lv_iload hx hb dX12_call_112 (lv_at hl 5 rfl) ?_
                  refine lv_aload_n hx hb dX12_call_114 rfl (lv_at hl 0 rfl) ?_
                  refine va_get (D := D) (ci := 12) (v := .ref (q 1)) (C := RX12) (T := TX12) (N := 52) hx hb hts (fun _ h => List.mem_cons_of_mem _ (List.mem_append_right _ h)) hown hK hP 0 rfl rfl 1 (by decide) (hts (.fieldLink RX12 7 "TemplateForgeModel" "args" "[I") (List.mem_of_getElem? (i := 20) rfl)) (fun _ h9 => h9) rfl dX12_call_115 ?_
                  refine lv_iload_n hx hb dX12_call_118 rfl (lv_at hl 1 rfl) ?_
                  have hin_44 := h.1
                  have h := h.2
                  refine va_iald hx hb hK hP 1 0 rfl rfl hin_44 dX12_call_119 ?_
                  refine lv_icmp_ge (tgt := 132) hx hb dX12_call_120 (by decide) (fun c_45 => ?_) (fun c_45 => ?_)
                  · have h := h.1 c_45
                    refine lv_iconst (v := 0) hx hb dX12_call_132 (by decide) ?_
                    have hin_46 := h.1
                    have h := h.2
                    refine va_iast hx hb hK hP hD hS 38 0 rfl rfl hin_46 dX12_call_133 (fun H locs hP hD hS => ?_)
                    obtain ⟨S46, eS46⟩ : ∃ z, z = ms S_93 42 (upd (S_93 42) ((15 * x93_5) + x93_6 : Int32).toNatClampNeg 0) := ⟨_, rfl⟩
                    have hP : va_P D vwCl (mW cI cZ h0 q S46) H := by rw [eS46]; exact hP
                    have hD : va_D A (mW cI cZ h0 q S46) := by rw [eS46]; exact hD
                    have h := h S46 eS46
                    refine lv_iinc (v := x93_6 + 1) (lv' := [(6, .int (x93_6 + 1)), (0, .ref h0), (1, .int x93_1), (2, .ref (q 42)), (3, .int x93_3), (5, .int x93_5)]) hx hb dX12_call_134 hl (k := 5) rfl rfl (by decide) rfl (fun ls hl => ?_)
                    refine lv_goto (tgt := 93) hx hb dX12_call_137 (by decide) ?_
                    exact ih_93  S46 x93_1 x93_3 x93_5 (x93_6 + 1) H locs _ h hP hD hS (lv_sub hl [1, 2, 3, 4, 5, 0] rfl)
                  · have h := h.2 c_45
                    refine lv_aload_n hx hb dX12_call_123 rfl (lv_at hl 2 rfl) ?_
                    refine lv_iload_n hx hb dX12_call_124 rfl (lv_at hl 3 rfl) ?_
                    refine lv_iload hx hb dX12_call_125 (lv_at hl 5 rfl) ?_
                    refine lv_iadd hx hb dX12_call_127 ?_
                    have hin_47 := h.1
                    have h := h.2
                    refine va_iald hx hb hK hP 38 0 rfl rfl hin_47 dX12_call_128 ?_
                    refine lv_goto (tgt := 133) hx hb dX12_call_129 (by decide) ?_
                    have hin_48 := h.1
                    have h := h.2
                    refine va_iast hx hb hK hP hD hS 38 0 rfl rfl hin_48 dX12_call_133 (fun H locs hP hD hS => ?_)
                    obtain ⟨S48, eS48⟩ : ∃ z, z = ms S_93 42 (upd (S_93 42) ((15 * x93_5) + x93_6 : Int32).toNatClampNeg (S_93 42 (x93_3 + x93_6 : Int32).toNatClampNeg)) := ⟨_, rfl⟩
                    have hP : va_P D vwCl (mW cI cZ h0 q S48) H := by rw [eS48]; exact hP
                    have hD : va_D A (mW cI cZ h0 q S48) := by rw [eS48]; exact hD
                    have h := h S48 eS48
                    refine lv_iinc (v := x93_6 + 1) (lv' := [(6, .int (x93_6 + 1)), (0, .ref h0), (1, .int x93_1), (2, .ref (q 42)), (3, .int x93_3), (5, .int x93_5)]) hx hb dX12_call_134 hl (k := 5) rfl rfl (by decide) rfl (fun ls hl => ?_)
                    refine lv_goto (tgt := 93) hx hb dX12_call_137 (by decide) ?_
                    exact ih_93  S48 x93_1 x93_3 x93_5 (x93_6 + 1) H locs _ h hP hD hS (lv_sub hl [1, 2, 3, 4, 5, 0] rfl)
            obtain ⟨n_93, h⟩ := h
            exact LP_93 n_93 S31 a1 a3 (S4 37 0) 0 H locs _ h hP hD hS (lv_sub hl [2, 3, 4, 5, 1, 0] rfl)
          · have h := h.2 c_28
            refine lv_aload_n hx hb dX12_call_55 rfl (lv_at hl 0 rfl) ?_
            refine lv_iload_n hx hb dX12_call_56 rfl (lv_at hl 1 rfl) ?_
            have hFc := zm_free hD hS hA
            refine va_callv (va_runV (As := [.int a1]) (rest := []) ⟨hx, hb, hml, hown, hts⟩ (zd_X12_makeCode l D cI cZ cP cF h0 q S4 a1 H.size _ h) (cwV 1 hts zg_zd_X12_call_r_zd_X12_makeCode_249 rfl rfl rfl (by decide +kernel) ⟨Nat.le_of_ble_eq_true rfl, Nat.le_of_ble_eq_true rfl⟩) ⟨zBW, va_recv hK hP (ci := 12) (q0 := 0) rfl rfl, fun U hU hW => ⟨rfl, by rw [hU], by rw [hU]; exact hP, hE.warm hW, hD.weaken (fun _ _ _ _ => trivial)⟩⟩ rfl rfl hl.1 rfl (lv_room (Nat.le_of_ble_eq_true rfl)) dX12_call_57 ⟨Nat.le_of_ble_eq_true rfl, Nat.le_of_ble_eq_true rfl⟩) hS (fun q _ h => hFc q h) hFc (fun S49 t H locs ht hvm h hB hz1 hk1 hS => ?_)
            obtain ⟨hP, hD1⟩ := hB
            rw [ht] at hP
            have hD := hD1.weaken (fun k q _ hq => hFc q.1 hq)
            refine lv_aload_n hx hb dX12_call_60 rfl (lv_at hl 0 rfl) ?_
            refine va_get (D := D) (ci := 12) (v := .int (S49 37 0)) (C := RX12) (T := TX12) (N := 52) hx hb hts (fun _ h => List.mem_cons_of_mem _ (List.mem_append_right _ h)) hown hK hP 0 rfl rfl 37 (by decide) (hts (.fieldLink RX12 236 "TemplateForgeModel" "open" "I") (List.mem_of_getElem? (i := 1) rfl)) (fun _ h9 => h9) rfl dX12_call_61 ?_
            refine lv_istore (lv' := [(5, .int (S49 37 0)), (0, .ref h0), (1, .int a1), (2, .ref (q 42)), (3, .int a3), (4, .int a4)]) hx hb dX12_call_64 hl (by decide) rfl (fun ls hl => ?_)
            refine lv_aload_n hx hb dX12_call_66 rfl (lv_at hl 1 rfl) ?_
            refine va_get (D := D) (ci := 12) (v := .ref (q 38)) (C := RX12) (T := TX12) (N := 52) hx hb hts (fun _ h => List.mem_cons_of_mem _ (List.mem_append_right _ h)) hown hK hP 0 rfl rfl 38 (by decide) (hts (.fieldLink RX12 111 "TemplateForgeModel" "frameMethod" "[I") (List.mem_of_getElem? (i := 11) rfl)) (fun _ h9 => h9) rfl dX12_call_67 ?_
            refine lv_iload hx hb dX12_call_70 (lv_at hl 0 rfl) ?_
            refine lv_iload_n hx hb dX12_call_72 rfl (lv_at hl 2 rfl) ?_
            have hin_50 := h.1
            have h := h.2
            refine va_iast hx hb hK hP hD hS 34 0 rfl rfl hin_50 dX12_call_73 (fun H locs hP hD hS => ?_)
            obtain ⟨S50, eS50⟩ : ∃ z, z = ms S49 38 (upd (S49 38) (S49 37 0 : Int32).toNatClampNeg a1) := ⟨_, rfl⟩
            have hP : va_P D vwCl (mW cI cZ h0 q S50) H := by rw [eS50]; exact hP
            have hD : va_D A (mW cI cZ h0 q S50) := by rw [eS50]; exact hD
            have h := h S50 eS50
            refine lv_aload_n hx hb dX12_call_74 rfl (lv_at hl 1 rfl) ?_
            refine va_get (D := D) (ci := 12) (v := .ref (q 39)) (C := RX12) (T := TX12) (N := 52) hx hb hts (fun _ h => List.mem_cons_of_mem _ (List.mem_append_right _ h)) hown hK hP 0 rfl rfl 39 (by decide) (hts (.fieldLink RX12 114 "TemplateForgeModel" "frameAt" "[I") (List.mem_of_getElem? (i := 12) rfl)) (fun _ h9 => h9) rfl dX12_call_75 ?_
            refine lv_iload hx hb dX12_call_78 (lv_at hl 0 rfl) ?_
            refine lv_iconst (v := 0) hx hb dX12_call_80 (by decide) ?_
            have hin_51 := h.1
            have h := h.2
            refine va_iast hx hb hK hP hD hS 35 0 rfl rfl hin_51 dX12_call_81 (fun H locs hP hD hS => ?_)
            obtain ⟨S51, eS51⟩ : ∃ z, z = ms S50 39 (upd (S50 39) (S49 37 0 : Int32).toNatClampNeg 0) := ⟨_, rfl⟩
            have hP : va_P D vwCl (mW cI cZ h0 q S51) H := by rw [eS51]; exact hP
            have hD : va_D A (mW cI cZ h0 q S51) := by rw [eS51]; exact hD
            have h := h S51 eS51
            refine lv_aload_n hx hb dX12_call_82 rfl (lv_at hl 1 rfl) ?_
            refine va_get (D := D) (ci := 12) (v := .ref (q 41)) (C := RX12) (T := TX12) (N := 52) hx hb hts (fun _ h => List.mem_cons_of_mem _ (List.mem_append_right _ h)) hown hK hP 0 rfl rfl 41 (by decide) (hts (.fieldLink RX12 120 "TemplateForgeModel" "frameDepth" "[I") (List.mem_of_getElem? (i := 13) rfl)) (fun _ h9 => h9) rfl dX12_call_83 ?_
            refine lv_iload hx hb dX12_call_86 (lv_at hl 0 rfl) ?_
            refine lv_iconst (v := 0) hx hb dX12_call_88 (by decide) ?_
            have hin_52 := h.1
            have h := h.2
            refine va_iast hx hb hK hP hD hS 37 0 rfl rfl hin_52 dX12_call_89 (fun H locs hP hD hS => ?_)
            obtain ⟨S52, eS52⟩ : ∃ z, z = ms S51 41 (upd (S51 41) (S49 37 0 : Int32).toNatClampNeg 0) := ⟨_, rfl⟩
            have hP : va_P D vwCl (mW cI cZ h0 q S52) H := by rw [eS52]; exact hP
            have hD : va_D A (mW cI cZ h0 q S52) := by rw [eS52]; exact hD
            have h := h S52 eS52
            refine lv_iconst (v := 0) hx hb dX12_call_90 (by decide) ?_
            refine lv_istore (lv' := [(6, .int 0), (5, .int (S49 37 0)), (0, .ref h0), (1, .int a1), (2, .ref (q 42)), (3, .int a3), (4, .int a4)]) hx hb dX12_call_91 hl (by decide) rfl (fun ls hl => ?_)
            have EX_93_140 : ∀ (S_140 : MST) (x140_1 : Int32) (x140_3 : Int32) (x140_5 : Int32) (H : Heap) (locs : List Loc) (ls : Array Slot), (vp_in x140_1 8 ∧ (((((S_140 15 (x140_1 : Int32).toNatClampNeg) : Int32) = 0) → (vp_in x140_5 16 ∧ (∀ S55 : MST, S55 = ms S_140 40 (upd (S_140 40) (x140_5 : Int32).toNatClampNeg (-1)) → (wp_X12_remember_r S55 x140_1 x140_3 (fun S56 => ∀ S57 : MST, S57 = ms S56 37 (fun _ => (S56 37 0) + 1) → (Post S57)))))) ∧ ((¬ (((S_140 15 (x140_1 : Int32).toNatClampNeg) : Int32) = 0)) → (wp_X12_codeNow S63 x140_1 (fun r58 => vp_in x140_5 16 ∧ (∀ S59 : MST, S59 = ms S_140 40 (upd (S_140 40) (x140_5 : Int32).toNatClampNeg r58) → (vp_in x140_1 8 ∧ (vp_in x140_1 8 ∧ (∀ S61 : MST, S61 = ms S59 19 (upd (S59 19) (x140_1 : Int32).toNatClampNeg ((S59 19 (x140_1 : Int32).toNatClampNeg) + 1)) → (∀ S62 : MST, S62 = ms S61 46 (fun _ => (S61 46 0) + 1) → (∀ S63 : MST, S63 = ms S62 37 (fun _ => (S62 37 0) + 1) → (Post S63)))))))))))) → va_P D vwCl (mW cI cZ h0 q S_140) H → va_D A (mW cI cZ h0 q S_140) → va_S A s.heap H locs → lv_has ls 7 [(0, .ref h0), (1, .int x140_1), (2, .ref (q 42)), (3, .int x140_3), (5, .int x140_5)] → W p l e (headSpec zw_zd_X12_call_r ({ frames := 6, cells := 0, slots := 0, locals := 139 })).room s m ([.ref h0, .int a1, .ref (q 42), .int a3, .int a4] : List Value).toArray below meth c H locs 0 0 (MQ below (va_Qv (fun S' => Post S') (fun (S' : MST) t => va_P D vwCl (mW cI cZ h0 q S') t.heap ∧ va_D A (mW cI cZ h0 q S')) A) ([.ref h0, .int a1, .ref (q 42), .int a3, .int a4] : List Value).toArray s 0 0 A) (F0 m 140 ls []) := by
              intro S_140 x140_1 x140_3 x140_5 H locs ls h hP hD hS hl
              refine lv_aload_n hx hb dX12_call_140 rfl (lv_at hl 0 rfl) ?_
              refine va_get (D := D) (ci := 12) (v := .ref (q 15)) (C := RX12) (T := TX12) (N := 52) hx hb hts (fun _ h => List.mem_cons_of_mem _ (List.mem_append_right _ h)) hown hK hP 0 rfl rfl 15 (by decide) (hts (.fieldLink RX12 50 "TemplateForgeModel" "hasCode" "[Z") (List.mem_of_getElem? (i := 10) rfl)) (fun _ h9 => h9) rfl dX12_call_141 ?_
              refine lv_iload_n hx hb dX12_call_144 rfl (lv_at hl 1 rfl) ?_
              have hin_53 := h.1
              have h := h.2
              refine va_zald hx hb hK hP 14 1 rfl rfl hin_53 dX12_call_145 ?_
              refine lv_if_eq (tgt := 184) hx hb dX12_call_146 (by decide) (fun c_54 => ?_) (fun c_54 => ?_)
              · have h := h.1 c_54
                refine lv_aload_n hx hb dX12_call_184 rfl (lv_at hl 0 rfl) ?_
                refine va_get (D := D) (ci := 12) (v := .ref (q 40)) (C := RX12) (T := TX12) (N := 52) hx hb hts (fun _ h => List.mem_cons_of_mem _ (List.mem_append_right _ h)) hown hK hP 0 rfl rfl 40 (by decide) (hts (.fieldLink RX12 117 "TemplateForgeModel" "frameCode" "[I") (List.mem_of_getElem? (i := 14) rfl)) (fun _ h9 => h9) rfl dX12_call_185 ?_
                refine lv_iload hx hb dX12_call_188 (lv_at hl 4 rfl) ?_
                refine lv_iconst (v := (-1)) hx hb dX12_call_190 (by decide) ?_
                have hin_55 := h.1
                have h := h.2
                refine va_iast hx hb hK hP hD hS 36 0 rfl rfl hin_55 dX12_call_191 (fun H locs hP hD hS => ?_)
                obtain ⟨S55, eS55⟩ : ∃ z, z = ms S_140 40 (upd (S_140 40) (x140_5 : Int32).toNatClampNeg (-1)) := ⟨_, rfl⟩
                have hP : va_P D vwCl (mW cI cZ h0 q S55) H := by rw [eS55]; exact hP
                have hD : va_D A (mW cI cZ h0 q S55) := by rw [eS55]; exact hD
                have h := h S55 eS55
                refine lv_aload_n hx hb dX12_call_192 rfl (lv_at hl 0 rfl) ?_
                refine lv_iload_n hx hb dX12_call_193 rfl (lv_at hl 1 rfl) ?_
                refine lv_aload_n hx hb dX12_call_194 rfl (lv_at hl 2 rfl) ?_
                refine lv_iload_n hx hb dX12_call_195 rfl (lv_at hl 3 rfl) ?_
                have hFc := zm_free hD hS hA
                refine va_callv (va_runV (As := [.int x140_1, .ref (q 42), .int x140_3]) (rest := []) ⟨hx, hb, hml, hown, hts⟩ (zd_X12_remember_r l D cI cZ cP cF h0 q S55 x140_1 x140_3 H.size _ h) (cwV 3 hts zg_zd_X12_call_r_zd_X12_remember_r_255 rfl rfl rfl (by decide +kernel) ⟨Nat.le_of_ble_eq_true rfl, Nat.le_of_ble_eq_true rfl⟩) ⟨zBW, va_recv hK hP (ci := 12) (q0 := 0) rfl rfl, fun U hU hW => ⟨rfl, by rw [hU], by rw [hU]; exact hP, hE.warm hW, hD.weaken (fun _ _ _ _ => trivial)⟩⟩ rfl rfl hl.1 rfl (lv_room (Nat.le_of_ble_eq_true rfl)) dX12_call_196 ⟨Nat.le_of_ble_eq_true rfl, Nat.le_of_ble_eq_true rfl⟩) hS (fun q _ h => hFc q h) hFc (fun S56 t H locs ht hvm h hB hz1 hk1 hS => ?_)
                obtain ⟨hP, hD1⟩ := hB
                rw [ht] at hP
                have hD := hD1.weaken (fun k q _ hq => hFc q.1 hq)
                refine lv_aload_n hx hb dX12_call_199 rfl (lv_at hl 0 rfl) ?_
                refine lv_dup hx hb dX12_call_200 rfl ?_
                refine va_get (D := D) (ci := 12) (v := .int (S56 37 0)) (C := RX12) (T := TX12) (N := 52) hx hb hts (fun _ h => List.mem_cons_of_mem _ (List.mem_append_right _ h)) hown hK hP 0 rfl rfl 37 (by decide) (hts (.fieldLink RX12 236 "TemplateForgeModel" "open" "I") (List.mem_of_getElem? (i := 1) rfl)) (fun _ h9 => h9) rfl dX12_call_201 ?_
                refine lv_iconst (v := 1) hx hb dX12_call_204 (by decide) ?_
                refine lv_iadd hx hb dX12_call_205 ?_
                refine va_put (D := D) (ci := 12) (v := .int ((S56 37 0) + 1)) (ty := .int) (C := RX12) (T := TX12) (N := 52) hx hb hts (fun _ h => List.mem_cons_of_mem _ (List.mem_append_right _ h)) tyX12 tyX12_ok nmX12 hown hK hP hD hS 0 rfl rfl 37 (by decide) (hts (.fieldLink RX12 236 "TemplateForgeModel" "open" "I") (List.mem_of_getElem? (i := 1) rfl)) (fun _ h9 => h9) rfl (by decide +kernel) rfl rfl (Nat.le_of_ble_eq_true rfl) dX12_call_206 (fun H locs hP hD hS => ?_)
                obtain ⟨S57, eS57⟩ : ∃ z, z = ms S56 37 (fun _ => (S56 37 0) + 1) := ⟨_, rfl⟩
                have hP : va_P D vwCl (mW cI cZ h0 q S57) H := by rw [eS57]; exact hP
                have hD : va_D A (mW cI cZ h0 q S57) := by rw [eS57]; exact hD
                have h := h S57 eS57
                exact W.vret hx hb hr (fun t ht hW => ⟨⟨S57, rfl, h, by rw [ht]; exact hP, hD⟩, hS.F ht⟩) hS.2.2 dX12_call_209
              · have h := h.2 c_54
                refine lv_aload_n hx hb dX12_call_149 rfl (lv_at hl 0 rfl) ?_
                refine va_get (D := D) (ci := 12) (v := .ref (q 40)) (C := RX12) (T := TX12) (N := 52) hx hb hts (fun _ h => List.mem_cons_of_mem _ (List.mem_append_right _ h)) hown hK hP 0 rfl rfl 40 (by decide) (hts (.fieldLink RX12 117 "TemplateForgeModel" "frameCode" "[I") (List.mem_of_getElem? (i := 14) rfl)) (fun _ h9 => h9) rfl dX12_call_150 ?_
                refine lv_iload hx hb dX12_call_153 (lv_at hl 4 rfl) ?_
                refine lv_aload_n hx hb dX12_call_155 rfl (lv_at hl 0 rfl) ?_
                refine lv_iload_n hx hb dX12_call_156 rfl (lv_at hl 1 rfl) ?_
                refine vp_callSi (va_Run.run (va_runV (As := [.int x140_1]) (rest := [.int x140_5, .ref (q 40)]) ⟨hx, hb, hml, hown, hts⟩ (zd_X12_codeNow l D cI cZ cP cF h0 q S_140 x140_1  _ h) (cwV 1 hts zg_zd_X12_call_r_zd_X12_codeNow_217 rfl rfl rfl (by decide +kernel) ⟨Nat.le_of_ble_eq_true rfl, Nat.le_of_ble_eq_true rfl⟩) ⟨zBR, va_recv hK hP (ci := 12) (q0 := 0) rfl rfl, fun U hU hW => ⟨rfl, by rw [hU]; exact hP, hE.warm hW⟩⟩ rfl rfl hl.1 rfl (lv_room (Nat.le_of_ble_eq_true rfl)) dX12_call_157 ⟨Nat.le_of_ble_eq_true rfl, Nat.le_of_ble_eq_true rfl⟩)) (fun r58 h => ?_)
                have hin_59 := h.1
                have h := h.2
                refine va_iast hx hb hK hP hD hS 36 0 rfl rfl hin_59 dX12_call_160 (fun H locs hP hD hS => ?_)
                obtain ⟨S59, eS59⟩ : ∃ z, z = ms S_140 40 (upd (S_140 40) (x140_5 : Int32).toNatClampNeg r58) := ⟨_, rfl⟩
                have hP : va_P D vwCl (mW cI cZ h0 q S59) H := by rw [eS59]; exact hP
                have hD : va_D A (mW cI cZ h0 q S59) := by rw [eS59]; exact hD
                have h := h S59 eS59
                refine lv_aload_n hx hb dX12_call_161 rfl (lv_at hl 0 rfl) ?_
                refine va_get (D := D) (ci := 12) (v := .ref (q 19)) (C := RX12) (T := TX12) (N := 52) hx hb hts (fun _ h => List.mem_cons_of_mem _ (List.mem_append_right _ h)) hown hK hP 0 rfl rfl 19 (by decide) (hts (.fieldLink RX12 62 "TemplateForgeModel" "codeCalls" "[I") (List.mem_of_getElem? (i := 29) rfl)) (fun _ h9 => h9) rfl dX12_call_162 ?_
                refine lv_iload_n hx hb dX12_call_165 rfl (lv_at hl 1 rfl) ?_
                refine lv_dup2_11 hx hb dX12_call_166 rfl rfl ?_
                have hin_60 := h.1
                have h := h.2
                refine va_iald hx hb hK hP 18 0 rfl rfl hin_60 dX12_call_167 ?_
                refine lv_iconst (v := 1) hx hb dX12_call_168 (by decide) ?_
                refine lv_iadd hx hb dX12_call_169 ?_
                have hin_61 := h.1
                have h := h.2
                refine va_iast hx hb hK hP hD hS 18 0 rfl rfl hin_61 dX12_call_170 (fun H locs hP hD hS => ?_)
                obtain ⟨S61, eS61⟩ : ∃ z, z = ms S59 19 (upd (S59 19) (x140_1 : Int32).toNatClampNeg ((S59 19 (x140_1 : Int32).toNatClampNeg) + 1)) := ⟨_, rfl⟩
                have hP : va_P D vwCl (mW cI cZ h0 q S61) H := by rw [eS61]; exact hP
                have hD : va_D A (mW cI cZ h0 q S61) := by rw [eS61]; exact hD
                have h := h S61 eS61
                refine lv_aload_n hx hb dX12_call_171 rfl (lv_at hl 0 rfl) ?_
                refine lv_dup hx hb dX12_call_172 rfl ?_
                refine va_get (D := D) (ci := 12) (v := .int (S61 46 0)) (C := RX12) (T := TX12) (N := 52) hx hb hts (fun _ h => List.mem_cons_of_mem _ (List.mem_append_right _ h)) hown hK hP 0 rfl rfl 46 (by decide) (hts (.fieldLink RX12 252 "TemplateForgeModel" "callsByCode" "I") (List.mem_of_getElem? (i := 30) rfl)) (fun _ h9 => h9) rfl dX12_call_173 ?_
                refine lv_iconst (v := 1) hx hb dX12_call_176 (by decide) ?_
                refine lv_iadd hx hb dX12_call_177 ?_
                refine va_put (D := D) (ci := 12) (v := .int ((S61 46 0) + 1)) (ty := .int) (C := RX12) (T := TX12) (N := 52) hx hb hts (fun _ h => List.mem_cons_of_mem _ (List.mem_append_right _ h)) tyX12 tyX12_ok nmX12 hown hK hP hD hS 0 rfl rfl 46 (by decide) (hts (.fieldLink RX12 252 "TemplateForgeModel" "callsByCode" "I") (List.mem_of_getElem? (i := 30) rfl)) (fun _ h9 => h9) rfl (by decide +kernel) rfl rfl (Nat.le_of_ble_eq_true rfl) dX12_call_178 (fun H locs hP hD hS => ?_)
                obtain ⟨S62, eS62⟩ : ∃ z, z = ms S61 46 (fun _ => (S61 46 0) + 1) := ⟨_, rfl⟩
                have hP : va_P D vwCl (mW cI cZ h0 q S62) H := by rw [eS62]; exact hP
                have hD : va_D A (mW cI cZ h0 q S62) := by rw [eS62]; exact hD
                have h := h S62 eS62
                refine lv_goto (tgt := 199) hx hb dX12_call_181 (by decide) ?_
                refine lv_aload_n hx hb dX12_call_199 rfl (lv_at hl 0 rfl) ?_
                refine lv_dup hx hb dX12_call_200 rfl ?_
                refine va_get (D := D) (ci := 12) (v := .int (S62 37 0)) (C := RX12) (T := TX12) (N := 52) hx hb hts (fun _ h => List.mem_cons_of_mem _ (List.mem_append_right _ h)) hown hK hP 0 rfl rfl 37 (by decide) (hts (.fieldLink RX12 236 "TemplateForgeModel" "open" "I") (List.mem_of_getElem? (i := 1) rfl)) (fun _ h9 => h9) rfl dX12_call_201 ?_
                refine lv_iconst (v := 1) hx hb dX12_call_204 (by decide) ?_
                refine lv_iadd hx hb dX12_call_205 ?_
                refine va_put (D := D) (ci := 12) (v := .int ((S62 37 0) + 1)) (ty := .int) (C := RX12) (T := TX12) (N := 52) hx hb hts (fun _ h => List.mem_cons_of_mem _ (List.mem_append_right _ h)) tyX12 tyX12_ok nmX12 hown hK hP hD hS 0 rfl rfl 37 (by decide) (hts (.fieldLink RX12 236 "TemplateForgeModel" "open" "I") (List.mem_of_getElem? (i := 1) rfl)) (fun _ h9 => h9) rfl (by decide +kernel) rfl rfl (Nat.le_of_ble_eq_true rfl) dX12_call_206 (fun H locs hP hD hS => ?_)
                obtain ⟨S63, eS63⟩ : ∃ z, z = ms S62 37 (fun _ => (S62 37 0) + 1) := ⟨_, rfl⟩
                have hP : va_P D vwCl (mW cI cZ h0 q S63) H := by rw [eS63]; exact hP
                have hD : va_D A (mW cI cZ h0 q S63) := by rw [eS63]; exact hD
                have h := h S63 eS63
                exact W.vret hx hb hr (fun t ht hW => ⟨⟨S63, rfl, h, by rw [ht]; exact hP, hD⟩, hS.F ht⟩) hS.2.2 dX12_call_209
            have LP_93 : ∀ (n_93 : Nat), ∀ (S_93 : MST) (x93_1 : Int32) (x93_3 : Int32) (x93_5 : Int32) (x93_6 : Int32) (H : Heap) (locs : List Loc) (ls : Array Slot), wl_X12_call_r_93 (fun S_140 x140_1 x140_3 x140_5 => vp_in x140_1 8 ∧ (((((S_140 15 (x140_1 : Int32).toNatClampNeg) : Int32) = 0) → (vp_in x140_5 16 ∧ (∀ S55 : MST, S55 = ms S_140 40 (upd (S_140 40) (x140_5 : Int32).toNatClampNeg (-1)) → (wp_X12_remember_r S55 x140_1 x140_3 (fun S56 => ∀ S57 : MST, S57 = ms S56 37 (fun _ => (S56 37 0) + 1) → (Post S57)))))) ∧ ((¬ (((S_140 15 (x140_1 : Int32).toNatClampNeg) : Int32) = 0)) → (wp_X12_codeNow S63 x140_1 (fun r58 => vp_in x140_5 16 ∧ (∀ S59 : MST, S59 = ms S_140 40 (upd (S_140 40) (x140_5 : Int32).toNatClampNeg r58) → (vp_in x140_1 8 ∧ (vp_in x140_1 8 ∧ (∀ S61 : MST, S61 = ms S59 19 (upd (S59 19) (x140_1 : Int32).toNatClampNeg ((S59 19 (x140_1 : Int32).toNatClampNeg) + 1)) → (∀ S62 : MST, S62 = ms S61 46 (fun _ => (S61 46 0) + 1) → (∀ S63 : MST, S63 = ms S62 37 (fun _ => (S62 37 0) + 1) → (Post S63)))))))))))) Post n_93 S_93 x93_1 x93_3 x93_5 x93_6 → va_P D vwCl (mW cI cZ h0 q S_93) H → va_D A (mW cI cZ h0 q S_93) → va_S A s.heap H locs → lv_has ls 7 [(0, .ref h0), (1, .int x93_1), (2, .ref (q 42)), (3, .int x93_3), (5, .int x93_5), (6, .int x93_6)] → W p l e (headSpec zw_zd_X12_call_r ({ frames := 6, cells := 0, slots := 0, locals := 139 })).room s m ([.ref h0, .int a1, .ref (q 42), .int a3, .int a4] : List Value).toArray below meth c H locs 0 0 (MQ below (va_Qv (fun S' => Post S') (fun (S' : MST) t => va_P D vwCl (mW cI cZ h0 q S') t.heap ∧ va_D A (mW cI cZ h0 q S')) A) ([.ref h0, .int a1, .ref (q 42), .int a3, .int a4] : List Value).toArray s 0 0 A) (F0 m 93 ls []) := by
              intro n_93
              induction n_93 with
              | zero =>
                intro S_93 x93_1 x93_3 x93_5 x93_6 H locs ls h hP hD hS hl
                exact False.elim h
              | succ n_93 ih_93 =>
                intro S_93 x93_1 x93_3 x93_5 x93_6 H locs ls h hP hD hS hl
                unfold wl_X12_call_r_93 at h
                refine lv_iload hx hb dX12_call_93 (lv_at hl 5 rfl) ?_
                refine lv_bipush (v := 15) hx hb dX12_call_95 (by decide) ?_
                refine lv_icmp_ge (tgt := 140) hx hb dX12_call_97 (by decide) (fun c_64 => ?_) (fun c_64 => ?_)
                · have h := h.1 c_64
                  exact EX_93_140  S_93 x93_1 x93_3 x93_5 H locs _ h hP hD hS (lv_sub hl [0, 1, 2, 3, 4] rfl)
                · have h := h.2 c_64
                  refine lv_aload_n hx hb dX12_call_100 rfl (lv_at hl 0 rfl) ?_
                  refine va_get (D := D) (ci := 12) (v := .ref (q 42)) (C := RX12) (T := TX12) (N := 52) hx hb hts (fun _ h => List.mem_cons_of_mem _ (List.mem_append_right _ h)) hown hK hP 0 rfl rfl 42 (by decide) (hts (.fieldLink RX12 123 "TemplateForgeModel" "register" "[I") (List.mem_of_getElem? (i := 31) rfl)) (fun _ h9 => h9) rfl dX12_call_101 ?_
                  refine lv_bipush (v := 15) hx hb dX12_call_104 (by decide) ?_
                  refine lv_iload hx hb dX12_call_106 (lv_at hl 4 rfl) ?_
                  refine lv_imul hx hb dX12_call_108 ?_
                  refine lv_iload hx hb dX12_call_109 (lv_at hl 5 rfl) ?_
                  refine lv_iadd hx hb dX12_call_111 ?_
                  refine lv_iload hx hb dX12_call_112 (lv_at hl 5 rfl) ?_
                  refine lv_aload_n hx hb dX12_call_114 rfl (lv_at hl 0 rfl) ?_
                  refine va_get (D := D) (ci := 12) (v := .ref (q 1)) (C := RX12) (T := TX12) (N := 52) hx hb hts (fun _ h => List.mem_cons_of_mem _ (List.mem_append_right _ h)) hown hK hP 0 rfl rfl 1 (by decide) (hts (.fieldLink RX12 7 "TemplateForgeModel" "args" "[I") (List.mem_of_getElem? (i := 20) rfl)) (fun _ h9 => h9) rfl dX12_call_115 ?_
                  refine lv_iload_n hx hb dX12_call_118 rfl (lv_at hl 1 rfl) ?_
                  have hin_65 := h.1
                  have h := h.2
                  refine va_iald hx hb hK hP 1 0 rfl rfl hin_65 dX12_call_119 ?_
                  refine lv_icmp_ge (tgt := 132) hx hb dX12_call_120 (by decide) (fun c_66 => ?_) (fun c_66 => ?_)
                  · have h := h.1 c_66
                    refine lv_iconst (v := 0) hx hb dX12_call_132 (by decide) ?_
                    have hin_67 := h.1
                    have h := h.2
                    refine va_iast hx hb hK hP hD hS 38 0 rfl rfl hin_67 dX12_call_133 (fun H locs hP hD hS => ?_)
                    obtain ⟨S67, eS67⟩ : ∃ z, z = ms S_93 42 (upd (S_93 42) ((15 * x93_5) + x93_6 : Int32).toNatClampNeg 0) := ⟨_, rfl⟩
                    have hP : va_P D vwCl (mW cI cZ h0 q S67) H := by rw [eS67]; exact hP
                    have hD : va_D A (mW cI cZ h0 q S67) := by rw [eS67]; exact hD
                    have h := h S67 eS67
                    refine lv_iinc (v := x93_6 + 1) (lv' := [(6, .int (x93_6 + 1)), (0, .ref h0), (1, .int x93_1), (2, .ref (q 42)), (3, .int x93_3), (5, .int x93_5)]) hx hb dX12_call_134 hl (k := 5) rfl rfl (by decide) rfl (fun ls hl => ?_)
                    refine lv_goto (tgt := 93) hx hb dX12_call_137 (by decide) ?_
                    exact ih_93  S67 x93_1 x93_3 x93_5 (x93_6 + 1) H locs _ h hP hD hS (lv_sub hl [1, 2, 3, 4, 5, 0] rfl)
                  · have h := h.2 c_66
                    refine lv_aload_n hx hb dX12_call_123 rfl (lv_at hl 2 rfl) ?_
                    refine lv_iload_n hx hb dX12_call_124 rfl (lv_at hl 3 rfl) ?_
                    refine lv_iload hx hb dX12_call_125 (lv_at hl 5 rfl) ?_
                    refine lv_iadd hx hb dX12_call_127 ?_
                    have hin_68 := h.1
                    have h := h.2
                    refine va_iald hx hb hK hP 38 0 rfl rfl hin_68 dX12_call_128 ?_
                    refine lv_goto (tgt := 133) hx hb dX12_call_129 (by decide) ?_
                    have hin_69 := h.1
                    have h := h.2
                    refine va_iast hx hb hK hP hD hS 38 0 rfl rfl hin_69 dX12_call_133 (fun H locs hP hD hS => ?_)
                    obtain ⟨S69, eS69⟩ : ∃ z, z = ms S_93 42 (upd (S_93 42) ((15 * x93_5) + x93_6 : Int32).toNatClampNeg (S_93 42 (x93_3 + x93_6 : Int32).toNatClampNeg)) := ⟨_, rfl⟩
                    have hP : va_P D vwCl (mW cI cZ h0 q S69) H := by rw [eS69]; exact hP
                    have hD : va_D A (mW cI cZ h0 q S69) := by rw [eS69]; exact hD
                    have h := h S69 eS69
                    refine lv_iinc (v := x93_6 + 1) (lv' := [(6, .int (x93_6 + 1)), (0, .ref h0), (1, .int x93_1), (2, .ref (q 42)), (3, .int x93_3), (5, .int x93_5)]) hx hb dX12_call_134 hl (k := 5) rfl rfl (by decide) rfl (fun ls hl => ?_)
                    refine lv_goto (tgt := 93) hx hb dX12_call_137 (by decide) ?_
                    exact ih_93  S69 x93_1 x93_3 x93_5 (x93_6 + 1) H locs _ h hP hD hS (lv_sub hl [1, 2, 3, 4, 5, 0] rfl)
            obtain ⟨n_93, h⟩ := h
            exact LP_93 n_93 S52 a1 a3 (S49 37 0) 0 H locs _ h hP hD hS (lv_sub hl [2, 3, 4, 5, 1, 0] rfl)
      · have h := h.2 c_3
        exact W.vret hx hb hr (fun t ht hW => ⟨⟨S2, rfl, h, by rw [ht]; exact hP, hD⟩, hS.F ht⟩) hS.2.2 dX12_call_25
    · have h := h.2 c_1
      refine lv_aload_n hx hb dX12_call_9 rfl (lv_at hl 0 rfl) ?_
      refine lv_bipush (v := 6) hx hb dX12_call_10 (by decide) ?_
      refine lv_iload hx hb dX12_call_12 (lv_at hl 4 rfl) ?_
      have hFc := zm_free hD hS hA
      refine va_callv (va_runV (As := [.int 6, .int a4]) (rest := []) ⟨hx, hb, hml, hown, hts⟩ (zd_X12_traps l D cI cZ cP cF h0 q S 6 a4 H.size _ h) (cwV 2 hts zg_zd_X12_call_r_zd_X12_traps_239 rfl rfl rfl (by decide +kernel) ⟨Nat.le_of_ble_eq_true rfl, Nat.le_of_ble_eq_true rfl⟩) ⟨zBW, va_recv hK hP (ci := 12) (q0 := 0) rfl rfl, fun U hU hW => ⟨rfl, by rw [hU], by rw [hU]; exact hP, hE.warm hW, hD.weaken (fun _ _ _ _ => trivial)⟩⟩ rfl rfl hl.1 rfl (lv_room (Nat.le_of_ble_eq_true rfl)) dX12_call_14 ⟨Nat.le_of_ble_eq_true rfl, Nat.le_of_ble_eq_true rfl⟩) hS (fun q _ h => hFc q h) hFc (fun S70 t H locs ht hvm h hB hz1 hk1 hS => ?_)
      obtain ⟨hP, hD1⟩ := hB
      rw [ht] at hP
      have hD := hD1.weaken (fun k q _ hq => hFc q.1 hq)
      exact W.vret hx hb hr (fun t ht hW => ⟨⟨S70, rfl, h, by rw [ht]; exact hP, hD⟩, hS.F ht⟩) hS.2.2 dX12_call_17
  exact key _ _ hP va_S.rf
