set_option maxRecDepth 100000 in
theorem zg_law_zd_X11_lose_a : GoodIn zw_law [.methodLink RL 41 yX11_lose, .instanceMethod yX11_lose, .selects RX11 yX11_lose yX11_lose, .initialized RX11] := goodIn_r _ [424, 425, 426, 2] rfl (by decide +kernel)
set_option maxRecDepth 100000 in
theorem zg_law_zd_X11_lose_c : GoodIn zw_law [.code yX11_lose cX11_lose 3 (some .int)] := goodIn_r _ [409] rfl (by decide +kernel)
set_option maxRecDepth 100000 in
theorem zg_law_zd_X11_lose_0 : GoodIn zw_law zw_zd_X11_lose_w0 := goodIn_r _ [39, 410, 31, 411, 412, 413, 27, 414, 32, 415, 416, 417, 418, 36, 419, 420] rfl (by decide +kernel)
set_option maxRecDepth 100000 in
theorem zg_law_zd_X11_lose_1 : GoodIn zw_law zw_zd_X11_lose_w1 := goodIn_r _ [421, 422, 423] rfl (by decide +kernel)
theorem zg_law_zd_X11_lose : GoodIn zw_law (wsV RL 41 RX11 yX11_lose zw_zd_X11_lose) := goodIn_app zg_law_zd_X11_lose_a (goodIn_ca (a := ((zw_zd_X11_lose_w0 ++ (zw_zd_X11_lose_w1)) ++ wsX110)) (goodIn_ca (a := (zw_zd_X11_lose_w0 ++ (zw_zd_X11_lose_w1))) (show GoodIn zw_law (.code yX11_lose cX11_lose 3 (some .int) :: (zw_zd_X11_lose_w0 ++ (zw_zd_X11_lose_w1))) from goodIn_app zg_law_zd_X11_lose_c (goodIn_app zg_law_zd_X11_lose_0 (zg_law_zd_X11_lose_1))) (fun w h => ⟨(fun _ h => List.mem_append_left _ (List.mem_append_right _ h)) w h, good_of_word (List.all_eq_true.mp zgw_X11 w h)⟩)) (fun w h => ⟨(fun _ h => List.mem_append_left _ (List.mem_append_left _ (List.mem_append_left _ (List.mem_append_left _ (List.mem_append_left _ (List.mem_append_left _ (List.mem_append_left _ (List.mem_append_left _ (List.mem_append_left _ (List.mem_append_left _ (List.mem_append_right _ h))))))))))) w h, good_of_word (List.all_eq_true.mp zgw_X2 w h)⟩))
set_option maxRecDepth 100000 in
theorem zg_law_zd_X12_lose_a : GoodIn zw_law [.methodLink RL 44 yX12_lose, .instanceMethod yX12_lose, .selects RX12 yX12_lose yX12_lose, .initialized RX12] := goodIn_r _ [428, 429, 430, 96] rfl (by decide +kernel)
set_option maxRecDepth 100000 in
theorem zg_law_zd_X12_lose_c : GoodIn zw_law [.code yX12_lose cX12_lose 3 (some .int)] := goodIn_r _ [427] rfl (by decide +kernel)
set_option maxRecDepth 100000 in
theorem zg_law_zd_X12_lose_0 : GoodIn zw_law zw_zd_X12_lose_w0 := goodIn_r _ [175, 176, 177, 178, 96, 110] rfl (by decide +kernel)
theorem zg_law_zd_X12_lose : GoodIn zw_law (wsV RL 44 RX12 yX12_lose zw_zd_X12_lose) := goodIn_app zg_law_zd_X12_lose_a (goodIn_ca (a := (zw_zd_X12_lose_w0)) (show GoodIn zw_law (.code yX12_lose cX12_lose 3 (some .int) :: (zw_zd_X12_lose_w0)) from goodIn_app zg_law_zd_X12_lose_c (zg_law_zd_X12_lose_0)) (fun w h => ⟨(fun _ h => List.mem_append_right _ h) w h, good_of_word (List.all_eq_true.mp zgw_X12 w h)⟩))
set_option maxRecDepth 100000 in
theorem zg_law_zd_X11_size_a : GoodIn zw_law [.methodLink RL 45 yX11_size, .instanceMethod yX11_size, .selects RX11 yX11_size yX11_size, .initialized RX11] := goodIn_r _ [432, 433, 434, 2] rfl (by decide +kernel)
set_option maxRecDepth 100000 in
theorem zg_law_zd_X11_size_c : GoodIn zw_law [.code yX11_size cX11_size 2 (some .int)] := goodIn_r _ [431] rfl (by decide +kernel)
set_option maxRecDepth 100000 in
theorem zg_law_zd_X11_size_0 : GoodIn zw_law zw_zd_X11_size_w0 := goodIn_r _ [39, 410, 31, 411, 412, 413, 27] rfl (by decide +kernel)
theorem zg_law_zd_X11_size : GoodIn zw_law (wsV RL 45 RX11 yX11_size zw_zd_X11_size) := goodIn_app zg_law_zd_X11_size_a (goodIn_ca (a := ((zw_zd_X11_size_w0) ++ wsX110)) (goodIn_ca (a := (zw_zd_X11_size_w0)) (show GoodIn zw_law (.code yX11_size cX11_size 2 (some .int) :: (zw_zd_X11_size_w0)) from goodIn_app zg_law_zd_X11_size_c (zg_law_zd_X11_size_0)) (fun w h => ⟨(fun _ h => List.mem_append_left _ (List.mem_append_right _ h)) w h, good_of_word (List.all_eq_true.mp zgw_X11 w h)⟩)) (fun w h => ⟨(fun _ h => List.mem_append_left _ (List.mem_append_left _ (List.mem_append_left _ (List.mem_append_left _ (List.mem_append_left _ (List.mem_append_left _ (List.mem_append_left _ (List.mem_append_left _ (List.mem_append_left _ (List.mem_append_left _ (List.mem_append_right _ h))))))))))) w h, good_of_word (List.all_eq_true.mp zgw_X2 w h)⟩))
set_option maxRecDepth 100000 in
theorem zg_law_zd_X12_size_a : GoodIn zw_law [.methodLink RL 48 yX12_size, .instanceMethod yX12_size, .selects RX12 yX12_size yX12_size, .initialized RX12] := goodIn_r _ [436, 437, 438, 96] rfl (by decide +kernel)
set_option maxRecDepth 100000 in
theorem zg_law_zd_X12_size_c : GoodIn zw_law [.code yX12_size cX12_size 2 (some .int)] := goodIn_r _ [435] rfl (by decide +kernel)
set_option maxRecDepth 100000 in
theorem zg_law_zd_X12_size_0 : GoodIn zw_law zw_zd_X12_size_w0 := goodIn_r _ [175, 176, 177, 178, 96, 110] rfl (by decide +kernel)
theorem zg_law_zd_X12_size : GoodIn zw_law (wsV RL 48 RX12 yX12_size zw_zd_X12_size) := goodIn_app zg_law_zd_X12_size_a (goodIn_ca (a := (zw_zd_X12_size_w0)) (show GoodIn zw_law (.code yX12_size cX12_size 2 (some .int) :: (zw_zd_X12_size_w0)) from goodIn_app zg_law_zd_X12_size_c (zg_law_zd_X12_size_0)) (fun w h => ⟨(fun _ h => List.mem_append_right _ h) w h, good_of_word (List.all_eq_true.mp zgw_X12 w h)⟩))
set_option maxRecDepth 100000 in
theorem zg_law_zd_X11_item_a : GoodIn zw_law [.methodLink RL 49 yX11_item, .instanceMethod yX11_item, .selects RX11 yX11_item yX11_item, .initialized RX11] := goodIn_r _ [445, 446, 447, 2] rfl (by decide +kernel)
set_option maxRecDepth 100000 in
theorem zg_law_zd_X11_item_c : GoodIn zw_law [.code yX11_item cX11_item 3 (some .int)] := goodIn_r _ [439] rfl (by decide +kernel)
set_option maxRecDepth 100000 in
theorem zg_law_zd_X11_item_0 : GoodIn zw_law zw_zd_X11_item_w0 := goodIn_r _ [39, 440, 410, 31, 441, 412, 413, 27, 32, 442, 443, 444] rfl (by decide +kernel)
theorem zg_law_zd_X11_item : GoodIn zw_law (wsV RL 49 RX11 yX11_item zw_zd_X11_item) := goodIn_app zg_law_zd_X11_item_a (goodIn_ca (a := ((zw_zd_X11_item_w0) ++ wsX110)) (goodIn_ca (a := (zw_zd_X11_item_w0)) (show GoodIn zw_law (.code yX11_item cX11_item 3 (some .int) :: (zw_zd_X11_item_w0)) from goodIn_app zg_law_zd_X11_item_c (zg_law_zd_X11_item_0)) (fun w h => ⟨(fun _ h => List.mem_append_left _ (List.mem_append_right _ h)) w h, good_of_word (List.all_eq_true.mp zgw_X11 w h)⟩)) (fun w h => ⟨(fun _ h => List.mem_append_left _ (List.mem_append_left _ (List.mem_append_left _ (List.mem_append_left _ (List.mem_append_left _ (List.mem_append_left _ (List.mem_append_left _ (List.mem_append_left _ (List.mem_append_left _ (List.mem_append_left _ (List.mem_append_right _ h))))))))))) w h, good_of_word (List.all_eq_true.mp zgw_X2 w h)⟩))
set_option maxRecDepth 100000 in
theorem zg_law_zd_X12_item_a : GoodIn zw_law [.methodLink RL 52 yX12_item, .instanceMethod yX12_item, .selects RX12 yX12_item yX12_item, .initialized RX12] := goodIn_r _ [449, 450, 451, 96] rfl (by decide +kernel)
set_option maxRecDepth 100000 in
theorem zg_law_zd_X12_item_c : GoodIn zw_law [.code yX12_item cX12_item 3 (some .int)] := goodIn_r _ [448] rfl (by decide +kernel)
set_option maxRecDepth 100000 in
theorem zg_law_zd_X12_item_0 : GoodIn zw_law zw_zd_X12_item_w0 := goodIn_r _ [175, 176, 177, 178, 96, 110, 111] rfl (by decide +kernel)
theorem zg_law_zd_X12_item : GoodIn zw_law (wsV RL 52 RX12 yX12_item zw_zd_X12_item) := goodIn_app zg_law_zd_X12_item_a (goodIn_ca (a := (zw_zd_X12_item_w0)) (show GoodIn zw_law (.code yX12_item cX12_item 3 (some .int) :: (zw_zd_X12_item_w0)) from goodIn_app zg_law_zd_X12_item_c (zg_law_zd_X12_item_0)) (fun w h => ⟨(fun _ h => List.mem_append_right _ h) w h, good_of_word (List.all_eq_true.mp zgw_X12 w h)⟩))
