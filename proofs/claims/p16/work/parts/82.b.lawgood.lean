set_option maxRecDepth 100000 in
theorem zg_law_zd_X11_fault_a : GoodIn zw_law [.methodLink RL 28 yX11_fault, .instanceMethod yX11_fault, .selects RX11 yX11_fault yX11_fault, .initialized RX11] := goodIn_r _ [376, 377, 378, 2] rfl (by decide +kernel)
set_option maxRecDepth 100000 in
theorem zg_law_zd_X11_fault_c : GoodIn zw_law [.code yX11_fault cX11_fault 1 (some .int)] := goodIn_r _ [374] rfl (by decide +kernel)
set_option maxRecDepth 100000 in
theorem zg_law_zd_X11_fault_0 : GoodIn zw_law zw_zd_X11_fault_w0 := goodIn_r _ [51, 375] rfl (by decide +kernel)
theorem zg_law_zd_X11_fault : GoodIn zw_law (wsV RL 28 RX11 yX11_fault zw_zd_X11_fault) := goodIn_app zg_law_zd_X11_fault_a (goodIn_ca (a := ((zw_zd_X11_fault_w0) ++ wsX110)) (goodIn_ca (a := (zw_zd_X11_fault_w0)) (show GoodIn zw_law (.code yX11_fault cX11_fault 1 (some .int) :: (zw_zd_X11_fault_w0)) from goodIn_app zg_law_zd_X11_fault_c (zg_law_zd_X11_fault_0)) (fun w h => ⟨(fun _ h => List.mem_append_left _ (List.mem_append_right _ h)) w h, good_of_word (List.all_eq_true.mp zgw_X11 w h)⟩)) (fun w h => ⟨(fun _ h => List.mem_append_left _ (List.mem_append_left _ (List.mem_append_left _ (List.mem_append_left _ (List.mem_append_left _ (List.mem_append_left _ (List.mem_append_right _ h))))))) w h, good_of_word (List.all_eq_true.mp zgw_X6 w h)⟩))
set_option maxRecDepth 100000 in
theorem zg_law_zd_X12_fault_a : GoodIn zw_law [.methodLink RL 32 yX12_fault, .instanceMethod yX12_fault, .selects RX12 yX12_fault yX12_fault, .initialized RX12] := goodIn_r _ [380, 381, 382, 96] rfl (by decide +kernel)
set_option maxRecDepth 100000 in
theorem zg_law_zd_X12_fault_c : GoodIn zw_law [.code yX12_fault cX12_fault 1 (some .int)] := goodIn_r _ [379] rfl (by decide +kernel)
set_option maxRecDepth 100000 in
theorem zg_law_zd_X12_fault_0 : GoodIn zw_law zw_zd_X12_fault_w0 := goodIn_r _ [346] rfl (by decide +kernel)
theorem zg_law_zd_X12_fault : GoodIn zw_law (wsV RL 32 RX12 yX12_fault zw_zd_X12_fault) := goodIn_app zg_law_zd_X12_fault_a (goodIn_ca (a := (zw_zd_X12_fault_w0)) (show GoodIn zw_law (.code yX12_fault cX12_fault 1 (some .int) :: (zw_zd_X12_fault_w0)) from goodIn_app zg_law_zd_X12_fault_c (zg_law_zd_X12_fault_0)) (fun w h => ⟨(fun _ h => List.mem_append_right _ h) w h, good_of_word (List.all_eq_true.mp zgw_X12 w h)⟩))
set_option maxRecDepth 100000 in
theorem zg_law_zd_X11_keep_a : GoodIn zw_law [.methodLink RL 33 yX11_keep, .instanceMethod yX11_keep, .selects RX11 yX11_keep yX11_keep, .initialized RX11] := goodIn_r _ [393, 394, 395, 2] rfl (by decide +kernel)
set_option maxRecDepth 100000 in
theorem zg_law_zd_X11_keep_c : GoodIn zw_law [.code yX11_keep cX11_keep 4 (some .int)] := goodIn_r _ [383] rfl (by decide +kernel)
set_option maxRecDepth 100000 in
theorem zg_law_zd_X11_keep_0 : GoodIn zw_law zw_zd_X11_keep_w0 := goodIn_r _ [384, 39, 385, 30, 386, 387, 388, 27, 389, 390, 391, 392] rfl (by decide +kernel)
theorem zg_law_zd_X11_keep : GoodIn zw_law (wsV RL 33 RX11 yX11_keep zw_zd_X11_keep) := goodIn_app zg_law_zd_X11_keep_a (goodIn_ca (a := ((zw_zd_X11_keep_w0) ++ wsX110)) (goodIn_ca (a := (zw_zd_X11_keep_w0)) (show GoodIn zw_law (.code yX11_keep cX11_keep 4 (some .int) :: (zw_zd_X11_keep_w0)) from goodIn_app zg_law_zd_X11_keep_c (zg_law_zd_X11_keep_0)) (fun w h => ⟨(fun _ h => List.mem_append_left _ (List.mem_append_right _ h)) w h, good_of_word (List.all_eq_true.mp zgw_X11 w h)⟩)) (fun w h => ⟨(fun _ h => List.mem_append_left _ (List.mem_append_left _ (List.mem_append_left _ (List.mem_append_left _ (List.mem_append_left _ (List.mem_append_left _ (List.mem_append_left _ (List.mem_append_left _ (List.mem_append_left _ (List.mem_append_left _ (List.mem_append_right _ h))))))))))) w h, good_of_word (List.all_eq_true.mp zgw_X2 w h)⟩))
set_option maxRecDepth 100000 in
theorem zg_law_zd_X12_keep_a : GoodIn zw_law [.methodLink RL 36 yX12_keep, .instanceMethod yX12_keep, .selects RX12 yX12_keep yX12_keep, .initialized RX12] := goodIn_r _ [398, 399, 400, 96] rfl (by decide +kernel)
set_option maxRecDepth 100000 in
theorem zg_law_zd_X12_keep_c : GoodIn zw_law [.code yX12_keep cX12_keep 4 (some .int)] := goodIn_r _ [396] rfl (by decide +kernel)
set_option maxRecDepth 100000 in
theorem zg_law_zd_X12_keep_0 : GoodIn zw_law zw_zd_X12_keep_w0 := goodIn_r _ [353, 176, 177, 178, 96, 109, 397] rfl (by decide +kernel)
theorem zg_law_zd_X12_keep : GoodIn zw_law (wsV RL 36 RX12 yX12_keep zw_zd_X12_keep) := goodIn_app zg_law_zd_X12_keep_a (goodIn_ca (a := (zw_zd_X12_keep_w0)) (show GoodIn zw_law (.code yX12_keep cX12_keep 4 (some .int) :: (zw_zd_X12_keep_w0)) from goodIn_app zg_law_zd_X12_keep_c (zg_law_zd_X12_keep_0)) (fun w h => ⟨(fun _ h => List.mem_append_right _ h) w h, good_of_word (List.all_eq_true.mp zgw_X12 w h)⟩))
set_option maxRecDepth 100000 in
theorem zg_law_zd_X11_field_a : GoodIn zw_law [.methodLink RL 37 yX11_field, .instanceMethod yX11_field, .selects RX11 yX11_field yX11_field, .initialized RX11] := goodIn_r _ [402, 403, 404, 2] rfl (by decide +kernel)
set_option maxRecDepth 100000 in
theorem zg_law_zd_X11_field_c : GoodIn zw_law [.code yX11_field cX11_field 2 (some .int)] := goodIn_r _ [401] rfl (by decide +kernel)
set_option maxRecDepth 100000 in
theorem zg_law_zd_X11_field_0 : GoodIn zw_law zw_zd_X11_field_w0 := goodIn_r _ [384, 39, 385, 30, 386, 387, 388, 27] rfl (by decide +kernel)
theorem zg_law_zd_X11_field : GoodIn zw_law (wsV RL 37 RX11 yX11_field zw_zd_X11_field) := goodIn_app zg_law_zd_X11_field_a (goodIn_ca (a := ((zw_zd_X11_field_w0) ++ wsX110)) (goodIn_ca (a := (zw_zd_X11_field_w0)) (show GoodIn zw_law (.code yX11_field cX11_field 2 (some .int) :: (zw_zd_X11_field_w0)) from goodIn_app zg_law_zd_X11_field_c (zg_law_zd_X11_field_0)) (fun w h => ⟨(fun _ h => List.mem_append_left _ (List.mem_append_right _ h)) w h, good_of_word (List.all_eq_true.mp zgw_X11 w h)⟩)) (fun w h => ⟨(fun _ h => List.mem_append_left _ (List.mem_append_left _ (List.mem_append_left _ (List.mem_append_left _ (List.mem_append_left _ (List.mem_append_left _ (List.mem_append_left _ (List.mem_append_left _ (List.mem_append_left _ (List.mem_append_left _ (List.mem_append_right _ h))))))))))) w h, good_of_word (List.all_eq_true.mp zgw_X2 w h)⟩))
set_option maxRecDepth 100000 in
theorem zg_law_zd_X12_field_a : GoodIn zw_law [.methodLink RL 40 yX12_field, .instanceMethod yX12_field, .selects RX12 yX12_field yX12_field, .initialized RX12] := goodIn_r _ [406, 407, 408, 96] rfl (by decide +kernel)
set_option maxRecDepth 100000 in
theorem zg_law_zd_X12_field_c : GoodIn zw_law [.code yX12_field cX12_field 2 (some .int)] := goodIn_r _ [405] rfl (by decide +kernel)
set_option maxRecDepth 100000 in
theorem zg_law_zd_X12_field_0 : GoodIn zw_law zw_zd_X12_field_w0 := goodIn_r _ [353, 176, 177, 178, 96, 397, 109] rfl (by decide +kernel)
theorem zg_law_zd_X12_field : GoodIn zw_law (wsV RL 40 RX12 yX12_field zw_zd_X12_field) := goodIn_app zg_law_zd_X12_field_a (goodIn_ca (a := (zw_zd_X12_field_w0)) (show GoodIn zw_law (.code yX12_field cX12_field 2 (some .int) :: (zw_zd_X12_field_w0)) from goodIn_app zg_law_zd_X12_field_c (zg_law_zd_X12_field_0)) (fun w h => ⟨(fun _ h => List.mem_append_right _ h) w h, good_of_word (List.all_eq_true.mp zgw_X12 w h)⟩))
