theorem fp_X11_71 : am_fp RX11 71 11 9 (.object "FlatToLet$Sheets") true := ⟨RX11, TX11, 16, tyX11, rfl, by decide, uin_X11, wd_471, tyX11_ok, nmX11, rfl, by decide +kernel, fun _ => rfl⟩
theorem wd_472 : Cond.fieldLink RX11 78 "FlatToLet" "visit" "LFlatToLet$Visit;" ∈ am_WS := am_t2 169 (by decide +kernel) rfl
theorem fl_X11_78 : am_fl RX11 78 11 10 := ⟨RX11, TX11, 16, rfl, by decide, uin_X11, wd_472⟩
theorem fp_X11_78 : am_fp RX11 78 11 10 (.object "FlatToLet$Visit") true := ⟨RX11, TX11, 16, tyX11, rfl, by decide, uin_X11, wd_472, tyX11_ok, nmX11, rfl, by decide +kernel, fun _ => rfl⟩
theorem wd_473 : Cond.fieldLink RX11 82 "FlatToLet" "order" "[I" ∈ am_WS := am_t2 170 (by decide +kernel) rfl
theorem fl_X11_82 : am_fl RX11 82 11 11 := ⟨RX11, TX11, 16, rfl, by decide, uin_X11, wd_473⟩
theorem fp_X11_82 : am_fp RX11 82 11 11 (.array .int) true := ⟨RX11, TX11, 16, tyX11, rfl, by decide, uin_X11, wd_473, tyX11_ok, nmX11, rfl, by decide +kernel, fun _ => rfl⟩
theorem wd_474 : Cond.fieldLink RX11 85 "FlatToLet" "way" "[I" ∈ am_WS := am_t2 171 (by decide +kernel) rfl
theorem fl_X11_85 : am_fl RX11 85 11 12 := ⟨RX11, TX11, 16, rfl, by decide, uin_X11, wd_474⟩
theorem fp_X11_85 : am_fp RX11 85 11 12 (.array .int) true := ⟨RX11, TX11, 16, tyX11, rfl, by decide, uin_X11, wd_474, tyX11_ok, nmX11, rfl, by decide +kernel, fun _ => rfl⟩
theorem wd_475 : Cond.fieldLink RX11 188 "FlatToLet" "wayLength" "I" ∈ am_WS := am_t2 172 (by decide +kernel) rfl
theorem fl_X11_188 : am_fl RX11 188 11 13 := ⟨RX11, TX11, 16, rfl, by decide, uin_X11, wd_475⟩
theorem fp_X11_188 : am_fp RX11 188 11 13 .int false := ⟨RX11, TX11, 16, tyX11, rfl, by decide, uin_X11, wd_475, tyX11_ok, nmX11, rfl, by decide +kernel, fun _ => rfl⟩
theorem wd_476 : Cond.fieldLink RX11 88 "FlatToLet" "gains" "[I" ∈ am_WS := am_t2 173 (by decide +kernel) rfl
theorem fl_X11_88 : am_fl RX11 88 11 14 := ⟨RX11, TX11, 16, rfl, by decide, uin_X11, wd_476⟩
theorem fp_X11_88 : am_fp RX11 88 11 14 (.array .int) true := ⟨RX11, TX11, 16, tyX11, rfl, by decide, uin_X11, wd_476, tyX11_ok, nmX11, rfl, by decide +kernel, fun _ => rfl⟩
theorem wd_477 : Cond.fieldLink RX11 91 "FlatToLet" "offered" "[I" ∈ am_WS := am_t2 174 (by decide +kernel) rfl
theorem fl_X11_91 : am_fl RX11 91 11 15 := ⟨RX11, TX11, 16, rfl, by decide, uin_X11, wd_477⟩
theorem fp_X11_91 : am_fp RX11 91 11 15 (.array .int) true := ⟨RX11, TX11, 16, tyX11, rfl, by decide, uin_X11, wd_477, tyX11_ok, nmX11, rfl, by decide +kernel, fun _ => rfl⟩
theorem wd_1009 : Cond.fieldLink RX12 87 "FlatToLetModel" "viewers" "I" ∈ am_WS := am_t4 226 (by decide +kernel) rfl
theorem fl_X12_87 : am_fl RX12 87 12 0 := ⟨RX12, TX12, 39, rfl, by decide, uin_X12, wd_1009⟩
theorem fp_X12_87 : am_fp RX12 87 12 0 .int false := ⟨RX12, TX12, 39, tyX12, rfl, by decide, uin_X12, wd_1009, tyX12_ok, nmX12, rfl, by decide +kernel, fun _ => rfl⟩
theorem wd_1010 : Cond.fieldLink RX12 7 "FlatToLetModel" "kind" "[I" ∈ am_WS := am_t4 227 (by decide +kernel) rfl
theorem fl_X12_7 : am_fl RX12 7 12 1 := ⟨RX12, TX12, 39, rfl, by decide, uin_X12, wd_1010⟩
theorem fp_X12_7 : am_fp RX12 7 12 1 (.array .int) true := ⟨RX12, TX12, 39, tyX12, rfl, by decide, uin_X12, wd_1010, tyX12_ok, nmX12, rfl, by decide +kernel, fun _ => rfl⟩
theorem wd_1011 : Cond.fieldLink RX12 13 "FlatToLetModel" "moreOf" "[I" ∈ am_WS := am_t4 228 (by decide +kernel) rfl
theorem fl_X12_13 : am_fl RX12 13 12 2 := ⟨RX12, TX12, 39, rfl, by decide, uin_X12, wd_1011⟩
theorem fp_X12_13 : am_fp RX12 13 12 2 (.array .int) true := ⟨RX12, TX12, 39, tyX12, rfl, by decide, uin_X12, wd_1011, tyX12_ok, nmX12, rfl, by decide +kernel, fun _ => rfl⟩
theorem wd_1012 : Cond.fieldLink RX12 16 "FlatToLetModel" "ones" "[I" ∈ am_WS := am_t4 229 (by decide +kernel) rfl
theorem fl_X12_16 : am_fl RX12 16 12 3 := ⟨RX12, TX12, 39, rfl, by decide, uin_X12, wd_1012⟩
theorem fp_X12_16 : am_fp RX12 16 12 3 (.array .int) true := ⟨RX12, TX12, 39, tyX12, rfl, by decide, uin_X12, wd_1012, tyX12_ok, nmX12, rfl, by decide +kernel, fun _ => rfl⟩
theorem wd_1013 : Cond.fieldLink RX12 19 "FlatToLetModel" "flat" "[I" ∈ am_WS := am_t4 230 (by decide +kernel) rfl
theorem fl_X12_19 : am_fl RX12 19 12 4 := ⟨RX12, TX12, 39, rfl, by decide, uin_X12, wd_1013⟩
theorem fp_X12_19 : am_fp RX12 19 12 4 (.array .int) true := ⟨RX12, TX12, 39, tyX12, rfl, by decide, uin_X12, wd_1013, tyX12_ok, nmX12, rfl, by decide +kernel, fun _ => rfl⟩
theorem wd_1014 : Cond.fieldLink RX12 22 "FlatToLetModel" "hour" "I" ∈ am_WS := am_t4 231 (by decide +kernel) rfl
theorem fl_X12_22 : am_fl RX12 22 12 5 := ⟨RX12, TX12, 39, rfl, by decide, uin_X12, wd_1014⟩
theorem fp_X12_22 : am_fp RX12 22 12 5 .int false := ⟨RX12, TX12, 39, tyX12, rfl, by decide, uin_X12, wd_1014, tyX12_ok, nmX12, rfl, by decide +kernel, fun _ => rfl⟩
theorem wd_1015 : Cond.fieldLink RX12 26 "FlatToLetModel" "tape" "[I" ∈ am_WS := am_t4 232 (by decide +kernel) rfl
theorem fl_X12_26 : am_fl RX12 26 12 6 := ⟨RX12, TX12, 39, rfl, by decide, uin_X12, wd_1015⟩
theorem fp_X12_26 : am_fp RX12 26 12 6 (.array .int) true := ⟨RX12, TX12, 39, tyX12, rfl, by decide, uin_X12, wd_1015, tyX12_ok, nmX12, rfl, by decide +kernel, fun _ => rfl⟩
theorem wd_1016 : Cond.fieldLink RX12 80 "FlatToLetModel" "taped" "I" ∈ am_WS := am_t4 233 (by decide +kernel) rfl
theorem fl_X12_80 : am_fl RX12 80 12 7 := ⟨RX12, TX12, 39, rfl, by decide, uin_X12, wd_1016⟩
theorem fp_X12_80 : am_fp RX12 80 12 7 .int false := ⟨RX12, TX12, 39, tyX12, rfl, by decide, uin_X12, wd_1016, tyX12_ok, nmX12, rfl, by decide +kernel, fun _ => rfl⟩
theorem wd_1017 : Cond.fieldLink RX12 29 "FlatToLetModel" "codes" "[I" ∈ am_WS := am_t4 234 (by decide +kernel) rfl
theorem fl_X12_29 : am_fl RX12 29 12 8 := ⟨RX12, TX12, 39, rfl, by decide, uin_X12, wd_1017⟩
theorem fp_X12_29 : am_fp RX12 29 12 8 (.array .int) true := ⟨RX12, TX12, 39, tyX12, rfl, by decide, uin_X12, wd_1017, tyX12_ok, nmX12, rfl, by decide +kernel, fun _ => rfl⟩
theorem wd_1018 : Cond.fieldLink RX12 32 "FlatToLetModel" "starts" "[I" ∈ am_WS := am_t4 235 (by decide +kernel) rfl
theorem fl_X12_32 : am_fl RX12 32 12 9 := ⟨RX12, TX12, 39, rfl, by decide, uin_X12, wd_1018⟩
theorem fp_X12_32 : am_fp RX12 32 12 9 (.array .int) true := ⟨RX12, TX12, 39, tyX12, rfl, by decide, uin_X12, wd_1018, tyX12_ok, nmX12, rfl, by decide +kernel, fun _ => rfl⟩
theorem wd_1019 : Cond.fieldLink RX12 94 "FlatToLetModel" "texts" "I" ∈ am_WS := am_t4 236 (by decide +kernel) rfl
theorem fl_X12_94 : am_fl RX12 94 12 10 := ⟨RX12, TX12, 39, rfl, by decide, uin_X12, wd_1019⟩
theorem fp_X12_94 : am_fp RX12 94 12 10 .int false := ⟨RX12, TX12, 39, tyX12, rfl, by decide, uin_X12, wd_1019, tyX12_ok, nmX12, rfl, by decide +kernel, fun _ => rfl⟩
theorem wd_1020 : Cond.fieldLink RX12 97 "FlatToLetModel" "rule" "I" ∈ am_WS := am_t4 237 (by decide +kernel) rfl
theorem fl_X12_97 : am_fl RX12 97 12 11 := ⟨RX12, TX12, 39, rfl, by decide, uin_X12, wd_1020⟩
theorem fp_X12_97 : am_fp RX12 97 12 11 .int false := ⟨RX12, TX12, 39, tyX12, rfl, by decide, uin_X12, wd_1020, tyX12_ok, nmX12, rfl, by decide +kernel, fun _ => rfl⟩
theorem wd_1021 : Cond.fieldLink RX12 259 "FlatToLetModel" "hasImage" "Z" ∈ am_WS := am_t4 238 (by decide +kernel) rfl
theorem fl_X12_259 : am_fl RX12 259 12 12 := ⟨RX12, TX12, 39, rfl, by decide, uin_X12, wd_1021⟩
theorem fp_X12_259 : am_fp RX12 259 12 12 .boolean false := ⟨RX12, TX12, 39, tyX12, rfl, by decide, uin_X12, wd_1021, tyX12_ok, nmX12, rfl, by decide +kernel, fun _ => rfl⟩
theorem wd_1022 : Cond.fieldLink RX12 35 "FlatToLetModel" "imageRows" "[I" ∈ am_WS := am_t4 239 (by decide +kernel) rfl
theorem fl_X12_35 : am_fl RX12 35 12 13 := ⟨RX12, TX12, 39, rfl, by decide, uin_X12, wd_1022⟩
theorem fp_X12_35 : am_fp RX12 35 12 13 (.array .int) true := ⟨RX12, TX12, 39, tyX12, rfl, by decide, uin_X12, wd_1022, tyX12_ok, nmX12, rfl, by decide +kernel, fun _ => rfl⟩
theorem wd_1023 : Cond.fieldLink RX12 38 "FlatToLetModel" "imageHeld" "[I" ∈ am_WS := am_t5 0 (by decide +kernel) rfl
theorem fl_X12_38 : am_fl RX12 38 12 14 := ⟨RX12, TX12, 39, rfl, by decide, uin_X12, wd_1023⟩
theorem fp_X12_38 : am_fp RX12 38 12 14 (.array .int) true := ⟨RX12, TX12, 39, tyX12, rfl, by decide, uin_X12, wd_1023, tyX12_ok, nmX12, rfl, by decide +kernel, fun _ => rfl⟩
theorem wd_1024 : Cond.fieldLink RX12 41 "FlatToLetModel" "sheetSort" "[I" ∈ am_WS := am_t5 1 (by decide +kernel) rfl
theorem fl_X12_41 : am_fl RX12 41 12 15 := ⟨RX12, TX12, 39, rfl, by decide, uin_X12, wd_1024⟩
theorem fp_X12_41 : am_fp RX12 41 12 15 (.array .int) true := ⟨RX12, TX12, 39, tyX12, rfl, by decide, uin_X12, wd_1024, tyX12_ok, nmX12, rfl, by decide +kernel, fun _ => rfl⟩
theorem wd_1025 : Cond.fieldLink RX12 44 "FlatToLetModel" "sheetSize" "[I" ∈ am_WS := am_t5 2 (by decide +kernel) rfl
theorem fl_X12_44 : am_fl RX12 44 12 16 := ⟨RX12, TX12, 39, rfl, by decide, uin_X12, wd_1025⟩
theorem fp_X12_44 : am_fp RX12 44 12 16 (.array .int) true := ⟨RX12, TX12, 39, tyX12, rfl, by decide, uin_X12, wd_1025, tyX12_ok, nmX12, rfl, by decide +kernel, fun _ => rfl⟩
theorem wd_1026 : Cond.fieldLink RX12 47 "FlatToLetModel" "cells" "[I" ∈ am_WS := am_t5 3 (by decide +kernel) rfl
theorem fl_X12_47 : am_fl RX12 47 12 17 := ⟨RX12, TX12, 39, rfl, by decide, uin_X12, wd_1026⟩
theorem fp_X12_47 : am_fp RX12 47 12 17 (.array .int) true := ⟨RX12, TX12, 39, tyX12, rfl, by decide, uin_X12, wd_1026, tyX12_ok, nmX12, rfl, by decide +kernel, fun _ => rfl⟩
theorem wd_1027 : Cond.fieldLink RX12 50 "FlatToLetModel" "law" "[I" ∈ am_WS := am_t5 4 (by decide +kernel) rfl
theorem fl_X12_50 : am_fl RX12 50 12 18 := ⟨RX12, TX12, 39, rfl, by decide, uin_X12, wd_1027⟩
theorem fp_X12_50 : am_fp RX12 50 12 18 (.array .int) true := ⟨RX12, TX12, 39, tyX12, rfl, by decide, uin_X12, wd_1027, tyX12_ok, nmX12, rfl, by decide +kernel, fun _ => rfl⟩
theorem wd_1028 : Cond.fieldLink RX12 107 "FlatToLetModel" "at" "I" ∈ am_WS := am_t5 5 (by decide +kernel) rfl
theorem fl_X12_107 : am_fl RX12 107 12 19 := ⟨RX12, TX12, 39, rfl, by decide, uin_X12, wd_1028⟩
theorem fp_X12_107 : am_fp RX12 107 12 19 .int false := ⟨RX12, TX12, 39, tyX12, rfl, by decide, uin_X12, wd_1028, tyX12_ok, nmX12, rfl, by decide +kernel, fun _ => rfl⟩
theorem wd_1029 : Cond.fieldLink RX12 110 "FlatToLetModel" "begun" "I" ∈ am_WS := am_t5 6 (by decide +kernel) rfl
theorem fl_X12_110 : am_fl RX12 110 12 20 := ⟨RX12, TX12, 39, rfl, by decide, uin_X12, wd_1029⟩
theorem fp_X12_110 : am_fp RX12 110 12 20 .int false := ⟨RX12, TX12, 39, tyX12, rfl, by decide, uin_X12, wd_1029, tyX12_ok, nmX12, rfl, by decide +kernel, fun _ => rfl⟩
theorem wd_1030 : Cond.fieldLink RX12 113 "FlatToLetModel" "token" "I" ∈ am_WS := am_t5 7 (by decide +kernel) rfl
theorem fl_X12_113 : am_fl RX12 113 12 21 := ⟨RX12, TX12, 39, rfl, by decide, uin_X12, wd_1030⟩
theorem fp_X12_113 : am_fp RX12 113 12 21 .int false := ⟨RX12, TX12, 39, tyX12, rfl, by decide, uin_X12, wd_1030, tyX12_ok, nmX12, rfl, by decide +kernel, fun _ => rfl⟩
theorem wd_1031 : Cond.fieldLink RX12 116 "FlatToLetModel" "value" "I" ∈ am_WS := am_t5 8 (by decide +kernel) rfl
theorem fl_X12_116 : am_fl RX12 116 12 22 := ⟨RX12, TX12, 39, rfl, by decide, uin_X12, wd_1031⟩
theorem fp_X12_116 : am_fp RX12 116 12 22 .int false := ⟨RX12, TX12, 39, tyX12, rfl, by decide, uin_X12, wd_1031, tyX12_ok, nmX12, rfl, by decide +kernel, fun _ => rfl⟩
theorem wd_1032 : Cond.fieldLink RX12 53 "FlatToLetModel" "words" "[I" ∈ am_WS := am_t5 9 (by decide +kernel) rfl
theorem fl_X12_53 : am_fl RX12 53 12 23 := ⟨RX12, TX12, 39, rfl, by decide, uin_X12, wd_1032⟩
theorem fp_X12_53 : am_fp RX12 53 12 23 (.array .int) true := ⟨RX12, TX12, 39, tyX12, rfl, by decide, uin_X12, wd_1032, tyX12_ok, nmX12, rfl, by decide +kernel, fun _ => rfl⟩
theorem wd_1033 : Cond.fieldLink RX12 56 "FlatToLetModel" "held" "[I" ∈ am_WS := am_t5 10 (by decide +kernel) rfl
theorem fl_X12_56 : am_fl RX12 56 12 24 := ⟨RX12, TX12, 39, rfl, by decide, uin_X12, wd_1033⟩
theorem fp_X12_56 : am_fp RX12 56 12 24 (.array .int) true := ⟨RX12, TX12, 39, tyX12, rfl, by decide, uin_X12, wd_1033, tyX12_ok, nmX12, rfl, by decide +kernel, fun _ => rfl⟩
theorem wd_1034 : Cond.fieldLink RX12 126 "FlatToLetModel" "heldMany" "I" ∈ am_WS := am_t5 11 (by decide +kernel) rfl
theorem fl_X12_126 : am_fl RX12 126 12 25 := ⟨RX12, TX12, 39, rfl, by decide, uin_X12, wd_1034⟩
theorem fp_X12_126 : am_fp RX12 126 12 25 .int false := ⟨RX12, TX12, 39, tyX12, rfl, by decide, uin_X12, wd_1034, tyX12_ok, nmX12, rfl, by decide +kernel, fun _ => rfl⟩
theorem wd_1035 : Cond.fieldLink RX12 133 "FlatToLetModel" "opens" "I" ∈ am_WS := am_t5 12 (by decide +kernel) rfl
theorem fl_X12_133 : am_fl RX12 133 12 26 := ⟨RX12, TX12, 39, rfl, by decide, uin_X12, wd_1035⟩
theorem fp_X12_133 : am_fp RX12 133 12 26 .int false := ⟨RX12, TX12, 39, tyX12, rfl, by decide, uin_X12, wd_1035, tyX12_ok, nmX12, rfl, by decide +kernel, fun _ => rfl⟩
theorem wd_1036 : Cond.fieldLink RX12 123 "FlatToLetModel" "out" "I" ∈ am_WS := am_t5 13 (by decide +kernel) rfl
theorem fl_X12_123 : am_fl RX12 123 12 27 := ⟨RX12, TX12, 39, rfl, by decide, uin_X12, wd_1036⟩
theorem fp_X12_123 : am_fp RX12 123 12 27 .int false := ⟨RX12, TX12, 39, tyX12, rfl, by decide, uin_X12, wd_1036, tyX12_ok, nmX12, rfl, by decide +kernel, fun _ => rfl⟩
theorem wd_1037 : Cond.fieldLink RX12 59 "FlatToLetModel" "stack" "[I" ∈ am_WS := am_t5 14 (by decide +kernel) rfl
theorem fl_X12_59 : am_fl RX12 59 12 28 := ⟨RX12, TX12, 39, rfl, by decide, uin_X12, wd_1037⟩
theorem fp_X12_59 : am_fp RX12 59 12 28 (.array .int) true := ⟨RX12, TX12, 39, tyX12, rfl, by decide, uin_X12, wd_1037, tyX12_ok, nmX12, rfl, by decide +kernel, fun _ => rfl⟩
theorem wd_1038 : Cond.fieldLink RX12 62 "FlatToLetModel" "named" "[I" ∈ am_WS := am_t5 15 (by decide +kernel) rfl
theorem fl_X12_62 : am_fl RX12 62 12 29 := ⟨RX12, TX12, 39, rfl, by decide, uin_X12, wd_1038⟩
theorem fp_X12_62 : am_fp RX12 62 12 29 (.array .int) true := ⟨RX12, TX12, 39, tyX12, rfl, by decide, uin_X12, wd_1038, tyX12_ok, nmX12, rfl, by decide +kernel, fun _ => rfl⟩
theorem wd_1039 : Cond.fieldLink RX12 65 "FlatToLetModel" "row" "[I" ∈ am_WS := am_t5 16 (by decide +kernel) rfl
theorem fl_X12_65 : am_fl RX12 65 12 30 := ⟨RX12, TX12, 39, rfl, by decide, uin_X12, wd_1039⟩
theorem fp_X12_65 : am_fp RX12 65 12 30 (.array .int) true := ⟨RX12, TX12, 39, tyX12, rfl, by decide, uin_X12, wd_1039, tyX12_ok, nmX12, rfl, by decide +kernel, fun _ => rfl⟩
theorem wd_1040 : Cond.fieldLink RX12 181 "FlatToLetModel" "rooms0" "I" ∈ am_WS := am_t5 17 (by decide +kernel) rfl
theorem fl_X12_181 : am_fl RX12 181 12 31 := ⟨RX12, TX12, 39, rfl, by decide, uin_X12, wd_1040⟩
theorem fp_X12_181 : am_fp RX12 181 12 31 .int false := ⟨RX12, TX12, 39, tyX12, rfl, by decide, uin_X12, wd_1040, tyX12_ok, nmX12, rfl, by decide +kernel, fun _ => rfl⟩
theorem wd_1041 : Cond.fieldLink RX12 208 "FlatToLetModel" "bestOne" "I" ∈ am_WS := am_t5 18 (by decide +kernel) rfl
theorem fl_X12_208 : am_fl RX12 208 12 32 := ⟨RX12, TX12, 39, rfl, by decide, uin_X12, wd_1041⟩
theorem fp_X12_208 : am_fp RX12 208 12 32 .int false := ⟨RX12, TX12, 39, tyX12, rfl, by decide, uin_X12, wd_1041, tyX12_ok, nmX12, rfl, by decide +kernel, fun _ => rfl⟩
theorem wd_1042 : Cond.fieldLink RX12 211 "FlatToLetModel" "bestOffer" "I" ∈ am_WS := am_t5 19 (by decide +kernel) rfl
theorem fl_X12_211 : am_fl RX12 211 12 33 := ⟨RX12, TX12, 39, rfl, by decide, uin_X12, wd_1042⟩
theorem fp_X12_211 : am_fp RX12 211 12 33 .int false := ⟨RX12, TX12, 39, tyX12, rfl, by decide, uin_X12, wd_1042, tyX12_ok, nmX12, rfl, by decide +kernel, fun _ => rfl⟩
theorem wd_1043 : Cond.fieldLink RX12 214 "FlatToLetModel" "nextOffer" "I" ∈ am_WS := am_t5 20 (by decide +kernel) rfl
theorem fl_X12_214 : am_fl RX12 214 12 34 := ⟨RX12, TX12, 39, rfl, by decide, uin_X12, wd_1043⟩
theorem fp_X12_214 : am_fp RX12 214 12 34 .int false := ⟨RX12, TX12, 39, tyX12, rfl, by decide, uin_X12, wd_1043, tyX12_ok, nmX12, rfl, by decide +kernel, fun _ => rfl⟩
theorem wd_1044 : Cond.fieldLink RX12 68 "FlatToLetModel" "mindBy" "[I" ∈ am_WS := am_t5 21 (by decide +kernel) rfl
theorem fl_X12_68 : am_fl RX12 68 12 35 := ⟨RX12, TX12, 39, rfl, by decide, uin_X12, wd_1044⟩
theorem fp_X12_68 : am_fp RX12 68 12 35 (.array .int) true := ⟨RX12, TX12, 39, tyX12, rfl, by decide, uin_X12, wd_1044, tyX12_ok, nmX12, rfl, by decide +kernel, fun _ => rfl⟩
theorem wd_1045 : Cond.fieldLink RX12 71 "FlatToLetModel" "offerBy" "[I" ∈ am_WS := am_t5 22 (by decide +kernel) rfl
theorem fl_X12_71 : am_fl RX12 71 12 36 := ⟨RX12, TX12, 39, rfl, by decide, uin_X12, wd_1045⟩
theorem fp_X12_71 : am_fp RX12 71 12 36 (.array .int) true := ⟨RX12, TX12, 39, tyX12, rfl, by decide, uin_X12, wd_1045, tyX12_ok, nmX12, rfl, by decide +kernel, fun _ => rfl⟩
theorem wd_1046 : Cond.fieldLink RX12 74 "FlatToLetModel" "offerAlone" "[I" ∈ am_WS := am_t5 23 (by decide +kernel) rfl
theorem fl_X12_74 : am_fl RX12 74 12 37 := ⟨RX12, TX12, 39, rfl, by decide, uin_X12, wd_1046⟩
theorem fp_X12_74 : am_fp RX12 74 12 37 (.array .int) true := ⟨RX12, TX12, 39, tyX12, rfl, by decide, uin_X12, wd_1046, tyX12_ok, nmX12, rfl, by decide +kernel, fun _ => rfl⟩
theorem wd_1047 : Cond.fieldLink RX12 77 "FlatToLetModel" "comer" "[I" ∈ am_WS := am_t5 24 (by decide +kernel) rfl
theorem fl_X12_77 : am_fl RX12 77 12 38 := ⟨RX12, TX12, 39, rfl, by decide, uin_X12, wd_1047⟩
theorem fp_X12_77 : am_fp RX12 77 12 38 (.array .int) true := ⟨RX12, TX12, 39, tyX12, rfl, by decide, uin_X12, wd_1047, tyX12_ok, nmX12, rfl, by decide +kernel, fun _ => rfl⟩
theorem wd_65 : Cond.initialized RX6 ∈ am_WS := am_t1 2 (by decide +kernel) rfl
theorem wd_95 : Cond.instanceMethod yX6_init ∈ am_WS := am_t1 32 (by decide +kernel) rfl
set_option maxRecDepth 100000 in
theorem wc_96 : am_co mX6_init ∈ am_WS := am_t1 33 rfl rfl
theorem cs_X11_9 : am_ciN RX11 9 mX6_init 0 "FlatToLet" := ⟨⟨by decide +kernel, by decide +kernel, by decide +kernel⟩, rfl, List.mem_of_getElem? (i := 0) (by decide +kernel), wd_95, wd_65, wc_96⟩
theorem wd_66 : Cond.initialized RX9 ∈ am_WS := am_t1 3 (by decide +kernel) rfl
theorem wd_136 : Cond.instanceMethod yX9_init ∈ am_WS := am_t1 73 (by decide +kernel) rfl
set_option maxRecDepth 100000 in
theorem wc_137 : am_co mX9_init ∈ am_WS := am_t1 74 rfl rfl
theorem cs_X11_21 : am_ciN RX11 21 mX9_init 0 "FlatToLet" := ⟨⟨by decide +kernel, by decide +kernel, by decide +kernel⟩, rfl, List.mem_of_getElem? (i := 1) (by decide +kernel), wd_136, wd_66, wc_137⟩
theorem wd_67 : Cond.initialized RX1 ∈ am_WS := am_t1 4 (by decide +kernel) rfl
theorem wd_143 : Cond.instanceMethod yX1_init ∈ am_WS := am_t1 80 (by decide +kernel) rfl
set_option maxRecDepth 100000 in
theorem wc_144 : am_co mX1_init ∈ am_WS := am_t1 81 rfl rfl
theorem cs_X11_24 : am_ciN RX11 24 mX1_init 0 "FlatToLet" := ⟨⟨by decide +kernel, by decide +kernel, by decide +kernel⟩, rfl, List.mem_of_getElem? (i := 2) (by decide +kernel), wd_143, wd_67, wc_144⟩
theorem wd_68 : Cond.initialized RX7 ∈ am_WS := am_t1 5 (by decide +kernel) rfl
theorem wd_150 : Cond.instanceMethod yX7_init ∈ am_WS := am_t1 87 (by decide +kernel) rfl
set_option maxRecDepth 100000 in
theorem wc_151 : am_co mX7_init ∈ am_WS := am_t1 88 rfl rfl
theorem cs_X11_27 : am_ciN RX11 27 mX7_init 0 "FlatToLet" := ⟨⟨by decide +kernel, by decide +kernel, by decide +kernel⟩, rfl, List.mem_of_getElem? (i := 4) (by decide +kernel), wd_150, wd_68, wc_151⟩
theorem wd_69 : Cond.initialized RX2 ∈ am_WS := am_t1 6 (by decide +kernel) rfl
theorem wd_157 : Cond.instanceMethod yX2_init ∈ am_WS := am_t1 94 (by decide +kernel) rfl
set_option maxRecDepth 100000 in
theorem wc_158 : am_co mX2_init ∈ am_WS := am_t1 95 rfl rfl
theorem cs_X11_30 : am_ciN RX11 30 mX2_init 0 "FlatToLet" := ⟨⟨by decide +kernel, by decide +kernel, by decide +kernel⟩, rfl, List.mem_of_getElem? (i := 6) (by decide +kernel), wd_157, wd_69, wc_158⟩
theorem wd_70 : Cond.initialized RX3 ∈ am_WS := am_t1 7 (by decide +kernel) rfl
theorem wd_164 : Cond.instanceMethod yX3_init ∈ am_WS := am_t1 101 (by decide +kernel) rfl
set_option maxRecDepth 100000 in
theorem wc_165 : am_co mX3_init ∈ am_WS := am_t1 102 rfl rfl
theorem cs_X11_33 : am_ciN RX11 33 mX3_init 0 "FlatToLet" := ⟨⟨by decide +kernel, by decide +kernel, by decide +kernel⟩, rfl, List.mem_of_getElem? (i := 8) (by decide +kernel), wd_164, wd_70, wc_165⟩
theorem wd_71 : Cond.initialized RX0 ∈ am_WS := am_t1 8 (by decide +kernel) rfl
theorem wd_171 : Cond.instanceMethod yX0_init ∈ am_WS := am_t1 108 (by decide +kernel) rfl
set_option maxRecDepth 100000 in
theorem wc_172 : am_co mX0_init ∈ am_WS := am_t1 109 rfl rfl
theorem cs_X11_36 : am_ciN RX11 36 mX0_init 0 "FlatToLet" := ⟨⟨by decide +kernel, by decide +kernel, by decide +kernel⟩, rfl, List.mem_of_getElem? (i := 10) (by decide +kernel), wd_171, wd_71, wc_172⟩
theorem wd_72 : Cond.initialized RX8 ∈ am_WS := am_t1 9 (by decide +kernel) rfl
theorem wd_178 : Cond.instanceMethod yX8_init ∈ am_WS := am_t1 115 (by decide +kernel) rfl
set_option maxRecDepth 100000 in
theorem wc_179 : am_co mX8_init ∈ am_WS := am_t1 116 rfl rfl
theorem cs_X11_54 : am_ciN RX11 54 mX8_init 0 "FlatToLet" := ⟨⟨by decide +kernel, by decide +kernel, by decide +kernel⟩, rfl, List.mem_of_getElem? (i := 12) (by decide +kernel), wd_178, wd_72, wc_179⟩
theorem wd_73 : Cond.initialized RX4 ∈ am_WS := am_t1 10 (by decide +kernel) rfl
theorem wd_206 : Cond.methodLink RX11 61 yX4_init ∈ am_WS := am_t1 143 (by decide +kernel) rfl
theorem wd_207 : Cond.instanceMethod yX4_init ∈ am_WS := am_t1 144 (by decide +kernel) rfl
set_option maxRecDepth 100000 in
theorem wc_208 : am_co mX4_init ∈ am_WS := am_t1 145 rfl rfl
theorem cs_X11_61 : am_ci RX11 61 mX4_init 1 := ⟨⟨by decide +kernel, by decide +kernel, by decide +kernel⟩, rfl, wd_206, wd_207, wd_73, wc_208⟩
theorem wd_74 : Cond.initialized RX5 ∈ am_WS := am_t1 11 (by decide +kernel) rfl
theorem wd_239 : Cond.instanceMethod yX5_init ∈ am_WS := am_t1 176 (by decide +kernel) rfl
set_option maxRecDepth 100000 in
theorem wc_240 : am_co mX5_init ∈ am_WS := am_t1 177 rfl rfl
theorem cs_X11_70 : am_ciN RX11 70 mX5_init 0 "FlatToLet" := ⟨⟨by decide +kernel, by decide +kernel, by decide +kernel⟩, rfl, List.mem_of_getElem? (i := 13) (by decide +kernel), wd_239, wd_74, wc_240⟩
theorem wd_75 : Cond.initialized RX10 ∈ am_WS := am_t1 12 (by decide +kernel) rfl
theorem wd_254 : Cond.methodLink RX11 77 yX10_init ∈ am_WS := am_t1 191 (by decide +kernel) rfl
theorem wd_255 : Cond.instanceMethod yX10_init ∈ am_WS := am_t1 192 (by decide +kernel) rfl
set_option maxRecDepth 100000 in
theorem wc_256 : am_co mX10_init ∈ am_WS := am_t1 193 rfl rfl
theorem cs_X11_77 : am_ci RX11 77 mX10_init 1 := ⟨⟨by decide +kernel, by decide +kernel, by decide +kernel⟩, rfl, wd_254, wd_255, wd_75, wc_256⟩
theorem wd_64 : Cond.initialized RX11 ∈ am_WS := am_t1 1 (by decide +kernel) rfl
theorem wd_520 : Cond.methodLink RX11 129 yX11_within ∈ am_WS := am_t2 217 (by decide +kernel) rfl
theorem wd_439 : Cond.static yX11_within ∈ am_WS := am_t2 136 (by decide +kernel) rfl
set_option maxRecDepth 100000 in
theorem wc_440 : am_co mX11_within ∈ am_WS := am_t2 137 rfl rfl
theorem cs_X11_129 : am_cs RX11 129 mX11_within 2 := ⟨⟨by decide +kernel, by decide +kernel, by decide +kernel⟩, wd_520, wd_439, wd_64, wc_440⟩
theorem wd_525 : Cond.methodLink RX11 139 yX11_at ∈ am_WS := am_t2 222 (by decide +kernel) rfl
theorem wd_365 : Cond.static yX11_at ∈ am_WS := am_t2 62 (by decide +kernel) rfl
set_option maxRecDepth 100000 in
theorem wc_366 : am_co mX11_at ∈ am_WS := am_t2 63 rfl rfl
theorem cs_X11_139 : am_cs RX11 139 mX11_at 2 := ⟨⟨by decide +kernel, by decide +kernel, by decide +kernel⟩, wd_525, wd_365, wd_64, wc_366⟩
theorem wd_526 : Cond.methodLink RX11 143 yX11_set ∈ am_WS := am_t2 223 (by decide +kernel) rfl
theorem wd_354 : Cond.static yX11_set ∈ am_WS := am_t2 51 (by decide +kernel) rfl
set_option maxRecDepth 100000 in
theorem wc_355 : am_co mX11_set ∈ am_WS := am_t2 52 rfl rfl
theorem cs_X11_143 : am_cs RX11 143 mX11_set 3 := ⟨⟨by decide +kernel, by decide +kernel, by decide +kernel⟩, wd_526, wd_354, wd_64, wc_355⟩
theorem wd_535 : Cond.methodLink RX11 147 yX11_isByte ∈ am_WS := am_t2 232 (by decide +kernel) rfl
theorem wd_536 : Cond.static yX11_isByte ∈ am_WS := am_t2 233 (by decide +kernel) rfl
set_option maxRecDepth 100000 in
theorem wc_537 : am_co mX11_isByte ∈ am_WS := am_t2 234 rfl rfl
theorem cs_X11_147 : am_cs RX11 147 mX11_isByte 1 := ⟨⟨by decide +kernel, by decide +kernel, by decide +kernel⟩, wd_535, wd_536, wd_64, wc_537⟩
theorem wd_554 : Cond.methodLink RX11 154 yX11_isCrowd ∈ am_WS := am_t3 11 (by decide +kernel) rfl
theorem wd_555 : Cond.static yX11_isCrowd ∈ am_WS := am_t3 12 (by decide +kernel) rfl
set_option maxRecDepth 100000 in
theorem wc_556 : am_co mX11_isCrowd ∈ am_WS := am_t3 13 rfl rfl
theorem cs_X11_154 : am_cs RX11 154 mX11_isCrowd 1 := ⟨⟨by decide +kernel, by decide +kernel, by decide +kernel⟩, wd_554, wd_555, wd_64, wc_556⟩
theorem wd_82 : Cond.initialized RJ6 ∈ am_WS := am_t1 19 (by decide +kernel) rfl
theorem wd_750 : Cond.methodLink RX11 197 yJ6_bitCount_0f7a4 ∈ am_WS := am_t3 207 (by decide +kernel) rfl
theorem wd_751 : Cond.static yJ6_bitCount_0f7a4 ∈ am_WS := am_t3 208 (by decide +kernel) rfl
set_option maxRecDepth 100000 in
theorem wc_752 : am_co mJ6_bitCount_0f7a4 ∈ am_WS := am_t3 209 rfl rfl
theorem cs_X11_197 : am_cs RX11 197 mJ6_bitCount_0f7a4 1 := ⟨⟨by decide +kernel, by decide +kernel, by decide +kernel⟩, wd_750, wd_751, wd_82, wc_752⟩
theorem wd_837 : Cond.methodLink RX11 241 yX11_inLowestTerms ∈ am_WS := am_t4 54 (by decide +kernel) rfl
theorem wd_838 : Cond.static yX11_inLowestTerms ∈ am_WS := am_t4 55 (by decide +kernel) rfl
set_option maxRecDepth 100000 in
theorem wc_839 : am_co mX11_inLowestTerms ∈ am_WS := am_t4 56 rfl rfl
theorem cs_X11_241 : am_cs RX11 241 mX11_inLowestTerms 3 := ⟨⟨by decide +kernel, by decide +kernel, by decide +kernel⟩, wd_837, wd_838, wd_64, wc_839⟩
theorem wd_953 : Cond.methodLink RX11 311 yX11_isOfKind ∈ am_WS := am_t4 170 (by decide +kernel) rfl
theorem wd_954 : Cond.static yX11_isOfKind ∈ am_WS := am_t4 171 (by decide +kernel) rfl
set_option maxRecDepth 100000 in
theorem wc_955 : am_co mX11_isOfKind ∈ am_WS := am_t4 172 rfl rfl
theorem cs_X11_311 : am_cs RX11 311 mX11_isOfKind 2 := ⟨⟨by decide +kernel, by decide +kernel, by decide +kernel⟩, wd_953, wd_954, wd_64, wc_955⟩
theorem wd_81 : Cond.initialized RJ9 ∈ am_WS := am_t1 18 (by decide +kernel) rfl
theorem wd_836 : Cond.methodLink RX11 335 yJ9_max_7cf53 ∈ am_WS := am_t4 53 (by decide +kernel) rfl
theorem wd_688 : Cond.static yJ9_max_7cf53 ∈ am_WS := am_t3 145 (by decide +kernel) rfl
set_option maxRecDepth 100000 in
theorem wc_689 : am_co mJ9_max_7cf53 ∈ am_WS := am_t3 146 rfl rfl
theorem cs_X11_335 : am_cs RX11 335 mJ9_max_7cf53 2 := ⟨⟨by decide +kernel, by decide +kernel, by decide +kernel⟩, wd_836, wd_688, wd_81, wc_689⟩
theorem wd_76 : Cond.initialized RJ0 ∈ am_WS := am_t1 13 (by decide +kernel) rfl
theorem wd_301 : Cond.methodLink RX11 96 yJ0_length_8abf5 ∈ am_WS := am_t1 238 (by decide +kernel) rfl
theorem wd_302 : Cond.instanceMethod yJ0_length_8abf5 ∈ am_WS := am_t1 239 (by decide +kernel) rfl
theorem wd_303 : Cond.selects RJ0 yJ0_length_8abf5 yJ0_length_8abf5 ∈ am_WS := am_t2 0 (by decide +kernel) rfl
set_option maxRecDepth 100000 in
theorem wc_304 : am_co mJ0_length_8abf5 ∈ am_WS := am_t2 1 rfl rfl
theorem cs_X11_96 : am_cvt RX11 96 mJ0_length_8abf5 0 := ⟨⟨by decide +kernel, by decide +kernel, by decide +kernel⟩, wd_301, wd_302, wd_303, wd_76, wc_304⟩
theorem wd_311 : Cond.methodLink RX11 102 yJ0_charAt_5068e ∈ am_WS := am_t2 8 (by decide +kernel) rfl
theorem wd_312 : Cond.instanceMethod yJ0_charAt_5068e ∈ am_WS := am_t2 9 (by decide +kernel) rfl
theorem wd_313 : Cond.selects RJ0 yJ0_charAt_5068e yJ0_charAt_5068e ∈ am_WS := am_t2 10 (by decide +kernel) rfl
set_option maxRecDepth 100000 in
theorem wc_314 : am_co mJ0_charAt_5068e ∈ am_WS := am_t2 11 rfl rfl
theorem cs_X11_102 : am_cvt RX11 102 mJ0_charAt_5068e 1 := ⟨⟨by decide +kernel, by decide +kernel, by decide +kernel⟩, wd_311, wd_312, wd_313, wd_76, wc_314⟩
theorem wd_349 : Cond.methodLink RX11 106 yX4_take ∈ am_WS := am_t2 46 (by decide +kernel) rfl
theorem wd_350 : Cond.instanceMethod yX4_take ∈ am_WS := am_t2 47 (by decide +kernel) rfl
theorem wd_351 : Cond.selects RX4 yX4_take yX4_take ∈ am_WS := am_t2 48 (by decide +kernel) rfl
set_option maxRecDepth 100000 in
theorem wc_352 : am_co mX4_take ∈ am_WS := am_t2 49 rfl rfl
theorem cs_X11_106 : am_cvt RX11 106 mX4_take 1 := ⟨⟨by decide +kernel, by decide +kernel, by decide +kernel⟩, wd_349, wd_350, wd_351, wd_73, wc_352⟩
theorem wd_356 : Cond.methodLink RX11 110 yX4_fault ∈ am_WS := am_t2 53 (by decide +kernel) rfl
theorem wd_357 : Cond.instanceMethod yX4_fault ∈ am_WS := am_t2 54 (by decide +kernel) rfl
theorem wd_358 : Cond.selects RX4 yX4_fault yX4_fault ∈ am_WS := am_t2 55 (by decide +kernel) rfl
set_option maxRecDepth 100000 in
theorem wc_359 : am_co mX4_fault ∈ am_WS := am_t2 56 rfl rfl
theorem cs_X11_110 : am_cvt RX11 110 mX4_fault 0 := ⟨⟨by decide +kernel, by decide +kernel, by decide +kernel⟩, wd_356, wd_357, wd_358, wd_73, wc_359⟩
theorem wd_550 : Cond.methodLink RX11 151 yX11_isViewer ∈ am_WS := am_t3 7 (by decide +kernel) rfl
theorem wd_552 : Cond.instanceMethod yX11_isViewer ∈ am_WS := am_t3 9 (by decide +kernel) rfl
theorem wd_14 : Cond.selects RX11 yX11_isViewer yX11_isViewer ∈ am_WS := am_ts 14 (by decide +kernel) rfl
set_option maxRecDepth 100000 in
theorem wc_553 : am_co mX11_isViewer ∈ am_WS := am_t3 10 rfl rfl
theorem cs_X11_151 : am_cvt RX11 151 mX11_isViewer 1 := ⟨⟨by decide +kernel, by decide +kernel, by decide +kernel⟩, wd_550, wd_552, wd_14, wd_64, wc_553⟩
theorem wd_557 : Cond.methodLink RX11 157 yX10_suppose ∈ am_WS := am_t3 14 (by decide +kernel) rfl
theorem wd_558 : Cond.instanceMethod yX10_suppose ∈ am_WS := am_t3 15 (by decide +kernel) rfl
theorem wd_559 : Cond.selects RX10 yX10_suppose yX10_suppose ∈ am_WS := am_t3 16 (by decide +kernel) rfl
set_option maxRecDepth 100000 in
theorem wc_560 : am_co mX10_suppose ∈ am_WS := am_t3 17 rfl rfl
theorem cs_X11_157 : am_cvt RX11 157 mX10_suppose 1 := ⟨⟨by decide +kernel, by decide +kernel, by decide +kernel⟩, wd_557, wd_558, wd_559, wd_75, wc_560⟩
theorem wd_567 : Cond.methodLink RX11 161 yX11_letCome ∈ am_WS := am_t3 24 (by decide +kernel) rfl
theorem wd_569 : Cond.instanceMethod yX11_letCome ∈ am_WS := am_t3 26 (by decide +kernel) rfl
theorem wd_15 : Cond.selects RX11 yX11_letCome yX11_letCome ∈ am_WS := am_ts 15 (by decide +kernel) rfl
set_option maxRecDepth 100000 in
theorem wc_570 : am_co mX11_letCome ∈ am_WS := am_t3 27 rfl rfl
theorem cs_X11_161 : am_cvt RX11 161 mX11_letCome 2 := ⟨⟨by decide +kernel, by decide +kernel, by decide +kernel⟩, wd_567, wd_569, wd_15, wd_64, wc_570⟩
theorem wd_596 : Cond.methodLink RX11 165 yX10_said ∈ am_WS := am_t3 53 (by decide +kernel) rfl
theorem wd_597 : Cond.instanceMethod yX10_said ∈ am_WS := am_t3 54 (by decide +kernel) rfl
theorem wd_598 : Cond.selects RX10 yX10_said yX10_said ∈ am_WS := am_t3 55 (by decide +kernel) rfl
set_option maxRecDepth 100000 in
theorem wc_599 : am_co mX10_said ∈ am_WS := am_t3 56 rfl rfl
theorem cs_X11_165 : am_cvt RX11 165 mX10_said 2 := ⟨⟨by decide +kernel, by decide +kernel, by decide +kernel⟩, wd_596, wd_597, wd_598, wd_75, wc_599⟩
theorem wd_635 : Cond.methodLink RX11 176 yX11_startTour ∈ am_WS := am_t3 92 (by decide +kernel) rfl
theorem wd_637 : Cond.instanceMethod yX11_startTour ∈ am_WS := am_t3 94 (by decide +kernel) rfl
theorem wd_19 : Cond.selects RX11 yX11_startTour yX11_startTour ∈ am_WS := am_ts 19 (by decide +kernel) rfl
set_option maxRecDepth 100000 in
theorem wc_638 : am_co mX11_startTour ∈ am_WS := am_t3 95 rfl rfl
theorem cs_X11_176 : am_cvt RX11 176 mX11_startTour 1 := ⟨⟨by decide +kernel, by decide +kernel, by decide +kernel⟩, wd_635, wd_637, wd_19, wd_64, wc_638⟩
theorem wd_665 : Cond.methodLink RX11 182 yX10_mind ∈ am_WS := am_t3 122 (by decide +kernel) rfl
theorem wd_666 : Cond.instanceMethod yX10_mind ∈ am_WS := am_t3 123 (by decide +kernel) rfl
theorem wd_667 : Cond.selects RX10 yX10_mind yX10_mind ∈ am_WS := am_t3 124 (by decide +kernel) rfl
set_option maxRecDepth 100000 in
theorem wc_668 : am_co mX10_mind ∈ am_WS := am_t3 125 rfl rfl
theorem cs_X11_182 : am_cvt RX11 182 mX10_mind 0 := ⟨⟨by decide +kernel, by decide +kernel, by decide +kernel⟩, wd_665, wd_666, wd_667, wd_75, wc_668⟩
theorem wd_710 : Cond.methodLink RX11 185 yX10_offer ∈ am_WS := am_t3 167 (by decide +kernel) rfl
theorem wd_711 : Cond.instanceMethod yX10_offer ∈ am_WS := am_t3 168 (by decide +kernel) rfl
theorem wd_712 : Cond.selects RX10 yX10_offer yX10_offer ∈ am_WS := am_t3 169 (by decide +kernel) rfl
set_option maxRecDepth 100000 in
theorem wc_713 : am_co mX10_offer ∈ am_WS := am_t3 170 rfl rfl
theorem cs_X11_185 : am_cvt RX11 185 mX10_offer 0 := ⟨⟨by decide +kernel, by decide +kernel, by decide +kernel⟩, wd_710, wd_711, wd_712, wd_75, wc_713⟩
theorem wd_738 : Cond.methodLink RX11 191 yX10_liked ∈ am_WS := am_t3 195 (by decide +kernel) rfl
theorem wd_739 : Cond.instanceMethod yX10_liked ∈ am_WS := am_t3 196 (by decide +kernel) rfl
theorem wd_740 : Cond.selects RX10 yX10_liked yX10_liked ∈ am_WS := am_t3 197 (by decide +kernel) rfl
set_option maxRecDepth 100000 in
theorem wc_741 : am_co mX10_liked ∈ am_WS := am_t3 198 rfl rfl
theorem cs_X11_191 : am_cvt RX11 191 mX10_liked 1 := ⟨⟨by decide +kernel, by decide +kernel, by decide +kernel⟩, wd_738, wd_739, wd_740, wd_75, wc_741⟩
theorem wd_746 : Cond.methodLink RX11 194 yX11_areViewers ∈ am_WS := am_t3 203 (by decide +kernel) rfl
theorem wd_748 : Cond.instanceMethod yX11_areViewers ∈ am_WS := am_t3 205 (by decide +kernel) rfl
theorem wd_20 : Cond.selects RX11 yX11_areViewers yX11_areViewers ∈ am_WS := am_ts 20 (by decide +kernel) rfl
set_option maxRecDepth 100000 in
theorem wc_749 : am_co mX11_areViewers ∈ am_WS := am_t3 206 rfl rfl
theorem cs_X11_194 : am_cvt RX11 194 mX11_areViewers 1 := ⟨⟨by decide +kernel, by decide +kernel, by decide +kernel⟩, wd_746, wd_748, wd_20, wd_64, wc_749⟩
theorem wd_756 : Cond.methodLink RX11 202 yX11_fillOffers ∈ am_WS := am_t3 213 (by decide +kernel) rfl
theorem wd_758 : Cond.instanceMethod yX11_fillOffers ∈ am_WS := am_t3 215 (by decide +kernel) rfl
theorem wd_21 : Cond.selects RX11 yX11_fillOffers yX11_fillOffers ∈ am_WS := am_ts 21 (by decide +kernel) rfl
set_option maxRecDepth 100000 in
theorem wc_759 : am_co mX11_fillOffers ∈ am_WS := am_t3 216 rfl rfl
theorem cs_X11_202 : am_cvt RX11 202 mX11_fillOffers 2 := ⟨⟨by decide +kernel, by decide +kernel, by decide +kernel⟩, wd_756, wd_758, wd_21, wd_64, wc_759⟩
theorem wd_760 : Cond.methodLink RX11 205 yX11_firstOfMost ∈ am_WS := am_t3 217 (by decide +kernel) rfl
theorem wd_762 : Cond.instanceMethod yX11_firstOfMost ∈ am_WS := am_t3 219 (by decide +kernel) rfl
theorem wd_22 : Cond.selects RX11 yX11_firstOfMost yX11_firstOfMost ∈ am_WS := am_ts 22 (by decide +kernel) rfl
set_option maxRecDepth 100000 in
theorem wc_763 : am_co mX11_firstOfMost ∈ am_WS := am_t3 220 rfl rfl
theorem cs_X11_205 : am_cvt RX11 205 mX11_firstOfMost 1 := ⟨⟨by decide +kernel, by decide +kernel, by decide +kernel⟩, wd_760, wd_762, wd_22, wd_64, wc_763⟩
theorem wd_764 : Cond.methodLink RX11 208 yX11_mostOffered ∈ am_WS := am_t3 221 (by decide +kernel) rfl
theorem wd_766 : Cond.instanceMethod yX11_mostOffered ∈ am_WS := am_t3 223 (by decide +kernel) rfl
theorem wd_23 : Cond.selects RX11 yX11_mostOffered yX11_mostOffered ∈ am_WS := am_ts 23 (by decide +kernel) rfl
set_option maxRecDepth 100000 in
theorem wc_767 : am_co mX11_mostOffered ∈ am_WS := am_t3 224 rfl rfl
theorem cs_X11_208 : am_cvt RX11 208 mX11_mostOffered 1 := ⟨⟨by decide +kernel, by decide +kernel, by decide +kernel⟩, wd_764, wd_766, wd_23, wd_64, wc_767⟩
theorem wd_773 : Cond.methodLink RX11 212 yX11_fillGains ∈ am_WS := am_t3 230 (by decide +kernel) rfl
theorem wd_775 : Cond.instanceMethod yX11_fillGains ∈ am_WS := am_t3 232 (by decide +kernel) rfl
theorem wd_24 : Cond.selects RX11 yX11_fillGains yX11_fillGains ∈ am_WS := am_ts 24 (by decide +kernel) rfl
set_option maxRecDepth 100000 in
theorem wc_776 : am_co mX11_fillGains ∈ am_WS := am_t3 233 rfl rfl
theorem cs_X11_212 : am_cvt RX11 212 mX11_fillGains 2 := ⟨⟨by decide +kernel, by decide +kernel, by decide +kernel⟩, wd_773, wd_775, wd_24, wd_64, wc_776⟩
theorem wd_782 : Cond.methodLink RX11 215 yX11_firstOrder ∈ am_WS := am_t3 239 (by decide +kernel) rfl
theorem wd_784 : Cond.instanceMethod yX11_firstOrder ∈ am_WS := am_t4 1 (by decide +kernel) rfl
theorem wd_26 : Cond.selects RX11 yX11_firstOrder yX11_firstOrder ∈ am_WS := am_ts 26 (by decide +kernel) rfl
set_option maxRecDepth 100000 in
theorem wc_785 : am_co mX11_firstOrder ∈ am_WS := am_t4 2 rfl rfl
theorem cs_X11_215 : am_cvt RX11 215 mX11_firstOrder 1 := ⟨⟨by decide +kernel, by decide +kernel, by decide +kernel⟩, wd_782, wd_784, wd_26, wd_64, wc_785⟩
theorem wd_786 : Cond.methodLink RX11 218 yX11_gainOfOrder ∈ am_WS := am_t4 3 (by decide +kernel) rfl
theorem wd_788 : Cond.instanceMethod yX11_gainOfOrder ∈ am_WS := am_t4 5 (by decide +kernel) rfl
theorem wd_27 : Cond.selects RX11 yX11_gainOfOrder yX11_gainOfOrder ∈ am_WS := am_ts 27 (by decide +kernel) rfl
set_option maxRecDepth 100000 in
theorem wc_789 : am_co mX11_gainOfOrder ∈ am_WS := am_t4 6 rfl rfl
theorem cs_X11_218 : am_cvt RX11 218 mX11_gainOfOrder 0 := ⟨⟨by decide +kernel, by decide +kernel, by decide +kernel⟩, wd_786, wd_788, wd_27, wd_64, wc_789⟩
theorem wd_790 : Cond.methodLink RX11 221 yX11_digitsOfOrder ∈ am_WS := am_t4 7 (by decide +kernel) rfl
theorem wd_792 : Cond.instanceMethod yX11_digitsOfOrder ∈ am_WS := am_t4 9 (by decide +kernel) rfl
theorem wd_28 : Cond.selects RX11 yX11_digitsOfOrder yX11_digitsOfOrder ∈ am_WS := am_ts 28 (by decide +kernel) rfl
set_option maxRecDepth 100000 in
theorem wc_793 : am_co mX11_digitsOfOrder ∈ am_WS := am_t4 10 rfl rfl
theorem cs_X11_221 : am_cvt RX11 221 mX11_digitsOfOrder 0 := ⟨⟨by decide +kernel, by decide +kernel, by decide +kernel⟩, wd_790, wd_792, wd_28, wd_64, wc_793⟩
theorem wd_794 : Cond.methodLink RX11 224 yX11_nextOrder ∈ am_WS := am_t4 11 (by decide +kernel) rfl
theorem wd_796 : Cond.instanceMethod yX11_nextOrder ∈ am_WS := am_t4 13 (by decide +kernel) rfl
theorem wd_29 : Cond.selects RX11 yX11_nextOrder yX11_nextOrder ∈ am_WS := am_ts 29 (by decide +kernel) rfl
set_option maxRecDepth 100000 in
theorem wc_797 : am_co mX11_nextOrder ∈ am_WS := am_t4 14 rfl rfl
theorem cs_X11_224 : am_cvt RX11 224 mX11_nextOrder 1 := ⟨⟨by decide +kernel, by decide +kernel, by decide +kernel⟩, wd_794, wd_796, wd_29, wd_64, wc_797⟩
theorem wd_806 : Cond.methodLink RX11 227 yX10_setHour ∈ am_WS := am_t4 23 (by decide +kernel) rfl
theorem wd_564 : Cond.instanceMethod yX10_setHour ∈ am_WS := am_t3 21 (by decide +kernel) rfl
theorem wd_565 : Cond.selects RX10 yX10_setHour yX10_setHour ∈ am_WS := am_t3 22 (by decide +kernel) rfl
set_option maxRecDepth 100000 in
theorem wc_566 : am_co mX10_setHour ∈ am_WS := am_t3 23 rfl rfl
theorem cs_X11_227 : am_cvt RX11 227 mX10_setHour 1 := ⟨⟨by decide +kernel, by decide +kernel, by decide +kernel⟩, wd_806, wd_564, wd_565, wd_75, wc_566⟩
theorem wd_659 : Cond.methodLink RX11 230 yX10_walk ∈ am_WS := am_t3 116 (by decide +kernel) rfl
theorem wd_660 : Cond.instanceMethod yX10_walk ∈ am_WS := am_t3 117 (by decide +kernel) rfl
theorem wd_661 : Cond.selects RX10 yX10_walk yX10_walk ∈ am_WS := am_t3 118 (by decide +kernel) rfl
set_option maxRecDepth 100000 in
theorem wc_662 : am_co mX10_walk ∈ am_WS := am_t3 119 rfl rfl
theorem cs_X11_230 : am_cvt RX11 230 mX10_walk 3 := ⟨⟨by decide +kernel, by decide +kernel, by decide +kernel⟩, wd_659, wd_660, wd_661, wd_75, wc_662⟩
theorem wd_819 : Cond.methodLink RX11 233 yX10_setDamp ∈ am_WS := am_t4 36 (by decide +kernel) rfl
theorem wd_820 : Cond.instanceMethod yX10_setDamp ∈ am_WS := am_t4 37 (by decide +kernel) rfl
theorem wd_821 : Cond.selects RX10 yX10_setDamp yX10_setDamp ∈ am_WS := am_t4 38 (by decide +kernel) rfl
set_option maxRecDepth 100000 in
theorem wc_822 : am_co mX10_setDamp ∈ am_WS := am_t4 39 rfl rfl
theorem cs_X11_233 : am_cvt RX11 233 mX10_setDamp 2 := ⟨⟨by decide +kernel, by decide +kernel, by decide +kernel⟩, wd_819, wd_820, wd_821, wd_75, wc_822⟩
theorem wd_832 : Cond.methodLink RX11 238 yX11_takenOfOrder ∈ am_WS := am_t4 49 (by decide +kernel) rfl
theorem wd_834 : Cond.instanceMethod yX11_takenOfOrder ∈ am_WS := am_t4 51 (by decide +kernel) rfl
theorem wd_31 : Cond.selects RX11 yX11_takenOfOrder yX11_takenOfOrder ∈ am_WS := am_ts 31 (by decide +kernel) rfl
set_option maxRecDepth 100000 in
theorem wc_835 : am_co mX11_takenOfOrder ∈ am_WS := am_t4 52 rfl rfl
theorem cs_X11_238 : am_cvt RX11 238 mX11_takenOfOrder 2 := ⟨⟨by decide +kernel, by decide +kernel, by decide +kernel⟩, wd_832, wd_834, wd_31, wd_64, wc_835⟩
theorem wd_844 : Cond.methodLink RX11 245 yX11_startTold ∈ am_WS := am_t4 61 (by decide +kernel) rfl
theorem wd_846 : Cond.instanceMethod yX11_startTold ∈ am_WS := am_t4 63 (by decide +kernel) rfl
theorem wd_32 : Cond.selects RX11 yX11_startTold yX11_startTold ∈ am_WS := am_ts 32 (by decide +kernel) rfl
set_option maxRecDepth 100000 in
theorem wc_847 : am_co mX11_startTold ∈ am_WS := am_t4 64 rfl rfl
theorem cs_X11_245 : am_cvt RX11 245 mX11_startTold 3 := ⟨⟨by decide +kernel, by decide +kernel, by decide +kernel⟩, wd_844, wd_846, wd_32, wd_64, wc_847⟩
theorem wd_848 : Cond.methodLink RX11 249 yX11_firstOtherwise ∈ am_WS := am_t4 65 (by decide +kernel) rfl
theorem wd_850 : Cond.instanceMethod yX11_firstOtherwise ∈ am_WS := am_t4 67 (by decide +kernel) rfl
theorem wd_33 : Cond.selects RX11 yX11_firstOtherwise yX11_firstOtherwise ∈ am_WS := am_ts 33 (by decide +kernel) rfl
set_option maxRecDepth 100000 in
theorem wc_851 : am_co mX11_firstOtherwise ∈ am_WS := am_t4 68 rfl rfl
theorem cs_X11_249 : am_cvt RX11 249 mX11_firstOtherwise 1 := ⟨⟨by decide +kernel, by decide +kernel, by decide +kernel⟩, wd_848, wd_850, wd_33, wd_64, wc_851⟩
theorem wd_571 : Cond.methodLink RX11 252 yX11_kindAt ∈ am_WS := am_t3 28 (by decide +kernel) rfl
theorem wd_573 : Cond.instanceMethod yX11_kindAt ∈ am_WS := am_t3 30 (by decide +kernel) rfl
theorem wd_16 : Cond.selects RX11 yX11_kindAt yX11_kindAt ∈ am_WS := am_ts 16 (by decide +kernel) rfl
set_option maxRecDepth 100000 in
theorem wc_574 : am_co mX11_kindAt ∈ am_WS := am_t3 31 rfl rfl
theorem cs_X11_252 : am_cvt RX11 252 mX11_kindAt 1 := ⟨⟨by decide +kernel, by decide +kernel, by decide +kernel⟩, wd_571, wd_573, wd_16, wd_64, wc_574⟩
theorem wd_575 : Cond.methodLink RX11 256 yX10_setKind ∈ am_WS := am_t3 32 (by decide +kernel) rfl
theorem wd_576 : Cond.instanceMethod yX10_setKind ∈ am_WS := am_t3 33 (by decide +kernel) rfl
theorem wd_577 : Cond.selects RX10 yX10_setKind yX10_setKind ∈ am_WS := am_t3 34 (by decide +kernel) rfl
set_option maxRecDepth 100000 in
theorem wc_578 : am_co mX10_setKind ∈ am_WS := am_t3 35 rfl rfl
theorem cs_X11_256 : am_cvt RX11 256 mX10_setKind 1 := ⟨⟨by decide +kernel, by decide +kernel, by decide +kernel⟩, wd_575, wd_576, wd_577, wd_75, wc_578⟩
theorem wd_579 : Cond.methodLink RX11 260 yX10_setMore ∈ am_WS := am_t3 36 (by decide +kernel) rfl
theorem wd_580 : Cond.instanceMethod yX10_setMore ∈ am_WS := am_t3 37 (by decide +kernel) rfl
theorem wd_581 : Cond.selects RX10 yX10_setMore yX10_setMore ∈ am_WS := am_t3 38 (by decide +kernel) rfl
set_option maxRecDepth 100000 in
theorem wc_582 : am_co mX10_setMore ∈ am_WS := am_t3 39 rfl rfl
theorem cs_X11_260 : am_cvt RX11 260 mX10_setMore 1 := ⟨⟨by decide +kernel, by decide +kernel, by decide +kernel⟩, wd_579, wd_580, wd_581, wd_75, wc_582⟩
theorem wd_583 : Cond.methodLink RX11 263 yX10_setRich ∈ am_WS := am_t3 40 (by decide +kernel) rfl
theorem wd_584 : Cond.instanceMethod yX10_setRich ∈ am_WS := am_t3 41 (by decide +kernel) rfl
theorem wd_585 : Cond.selects RX10 yX10_setRich yX10_setRich ∈ am_WS := am_t3 42 (by decide +kernel) rfl
set_option maxRecDepth 100000 in
theorem wc_586 : am_co mX10_setRich ∈ am_WS := am_t3 43 rfl rfl
theorem cs_X11_263 : am_cvt RX11 263 mX10_setRich 1 := ⟨⟨by decide +kernel, by decide +kernel, by decide +kernel⟩, wd_583, wd_584, wd_585, wd_75, wc_586⟩
theorem wd_864 : Cond.methodLink RX11 266 yX10_setLight ∈ am_WS := am_t4 81 (by decide +kernel) rfl
theorem wd_865 : Cond.instanceMethod yX10_setLight ∈ am_WS := am_t4 82 (by decide +kernel) rfl
theorem wd_866 : Cond.selects RX10 yX10_setLight yX10_setLight ∈ am_WS := am_t4 83 (by decide +kernel) rfl
set_option maxRecDepth 100000 in
theorem wc_867 : am_co mX10_setLight ∈ am_WS := am_t4 84 rfl rfl
theorem cs_X11_266 : am_cvt RX11 266 mX10_setLight 2 := ⟨⟨by decide +kernel, by decide +kernel, by decide +kernel⟩, wd_864, wd_865, wd_866, wd_75, wc_867⟩
theorem wd_872 : Cond.methodLink RX11 269 yX10_setLaw ∈ am_WS := am_t4 89 (by decide +kernel) rfl
theorem wd_873 : Cond.instanceMethod yX10_setLaw ∈ am_WS := am_t4 90 (by decide +kernel) rfl
theorem wd_874 : Cond.selects RX10 yX10_setLaw yX10_setLaw ∈ am_WS := am_t4 91 (by decide +kernel) rfl
set_option maxRecDepth 100000 in
theorem wc_875 : am_co mX10_setLaw ∈ am_WS := am_t4 92 rfl rfl
theorem cs_X11_269 : am_cvt RX11 269 mX10_setLaw 1 := ⟨⟨by decide +kernel, by decide +kernel, by decide +kernel⟩, wd_872, wd_873, wd_874, wd_75, wc_875⟩
theorem wd_880 : Cond.methodLink RX11 272 yX5_lay ∈ am_WS := am_t4 97 (by decide +kernel) rfl
theorem wd_881 : Cond.instanceMethod yX5_lay ∈ am_WS := am_t4 98 (by decide +kernel) rfl
theorem wd_882 : Cond.selects RX5 yX5_lay yX5_lay ∈ am_WS := am_t4 99 (by decide +kernel) rfl
set_option maxRecDepth 100000 in
theorem wc_883 : am_co mX5_lay ∈ am_WS := am_t4 100 rfl rfl
theorem cs_X11_272 : am_cvt RX11 272 mX5_lay 3 := ⟨⟨by decide +kernel, by decide +kernel, by decide +kernel⟩, wd_880, wd_881, wd_882, wd_74, wc_883⟩
theorem wd_885 : Cond.methodLink RX11 276 yX5_write ∈ am_WS := am_t4 102 (by decide +kernel) rfl
theorem wd_886 : Cond.instanceMethod yX5_write ∈ am_WS := am_t4 103 (by decide +kernel) rfl
theorem wd_887 : Cond.selects RX5 yX5_write yX5_write ∈ am_WS := am_t4 104 (by decide +kernel) rfl
set_option maxRecDepth 100000 in
theorem wc_888 : am_co mX5_write ∈ am_WS := am_t4 105 rfl rfl
theorem cs_X11_276 : am_cvt RX11 276 mX5_write 3 := ⟨⟨by decide +kernel, by decide +kernel, by decide +kernel⟩, wd_885, wd_886, wd_887, wd_74, wc_888⟩
theorem wd_658 : Cond.methodLink RX11 279 yX5_read ∈ am_WS := am_t3 115 (by decide +kernel) rfl
theorem wd_653 : Cond.instanceMethod yX5_read ∈ am_WS := am_t3 110 (by decide +kernel) rfl
theorem wd_654 : Cond.selects RX5 yX5_read yX5_read ∈ am_WS := am_t3 111 (by decide +kernel) rfl
set_option maxRecDepth 100000 in
theorem wc_655 : am_co mX5_read ∈ am_WS := am_t3 112 rfl rfl
theorem cs_X11_279 : am_cvt RX11 279 mX5_read 2 := ⟨⟨by decide +kernel, by decide +kernel, by decide +kernel⟩, wd_658, wd_653, wd_654, wd_74, wc_655⟩
theorem wd_893 : Cond.methodLink RX11 282 yX11_drawOrder ∈ am_WS := am_t4 110 (by decide +kernel) rfl
theorem wd_895 : Cond.instanceMethod yX11_drawOrder ∈ am_WS := am_t4 112 (by decide +kernel) rfl
theorem wd_34 : Cond.selects RX11 yX11_drawOrder yX11_drawOrder ∈ am_WS := am_ts 34 (by decide +kernel) rfl
set_option maxRecDepth 100000 in
theorem wc_896 : am_co mX11_drawOrder ∈ am_WS := am_t4 113 rfl rfl
theorem cs_X11_282 : am_cvt RX11 282 mX11_drawOrder 1 := ⟨⟨by decide +kernel, by decide +kernel, by decide +kernel⟩, wd_893, wd_895, wd_34, wd_64, wc_896⟩
theorem wd_907 : Cond.methodLink RX11 285 yX6_become ∈ am_WS := am_t4 124 (by decide +kernel) rfl
theorem wd_908 : Cond.instanceMethod yX6_become ∈ am_WS := am_t4 125 (by decide +kernel) rfl
theorem wd_909 : Cond.selects RX6 yX6_become yX6_become ∈ am_WS := am_t4 126 (by decide +kernel) rfl
set_option maxRecDepth 100000 in
theorem wc_910 : am_co mX6_become ∈ am_WS := am_t4 127 rfl rfl
theorem cs_X11_285 : am_cvt RX11 285 mX6_become 1 := ⟨⟨by decide +kernel, by decide +kernel, by decide +kernel⟩, wd_907, wd_908, wd_909, wd_65, wc_910⟩
theorem wd_639 : Cond.methodLink RX11 292 yX5_isMissing ∈ am_WS := am_t3 96 (by decide +kernel) rfl
theorem wd_640 : Cond.instanceMethod yX5_isMissing ∈ am_WS := am_t3 97 (by decide +kernel) rfl
theorem wd_641 : Cond.selects RX5 yX5_isMissing yX5_isMissing ∈ am_WS := am_t3 98 (by decide +kernel) rfl
set_option maxRecDepth 100000 in
theorem wc_642 : am_co mX5_isMissing ∈ am_WS := am_t3 99 rfl rfl
theorem cs_X11_292 : am_cvt RX11 292 mX5_isMissing 1 := ⟨⟨by decide +kernel, by decide +kernel, by decide +kernel⟩, wd_639, wd_640, wd_641, wd_74, wc_642⟩
theorem wd_657 : Cond.methodLink RX11 295 yX5_size ∈ am_WS := am_t3 114 (by decide +kernel) rfl
theorem wd_649 : Cond.instanceMethod yX5_size ∈ am_WS := am_t3 106 (by decide +kernel) rfl
theorem wd_650 : Cond.selects RX5 yX5_size yX5_size ∈ am_WS := am_t3 107 (by decide +kernel) rfl
