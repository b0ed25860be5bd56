set_option maxRecDepth 100000 in
theorem wc_843 : am_co mX11_judge ∈ am_WS := am_t4 60 rfl rfl
theorem cs_L_100 : am_cvt RL 100 mX11_judge 3 := ⟨⟨by decide +kernel, by decide +kernel, by decide +kernel⟩, wd_840, wd_841, wd_842, wd_64, wc_843⟩
theorem wd_1289 : Cond.methodLink RL 103 yX12_judge ∈ am_WS := am_t6 26 (by decide +kernel) rfl
theorem wd_1290 : Cond.instanceMethod yX12_judge ∈ am_WS := am_t6 27 (by decide +kernel) rfl
theorem wd_1291 : Cond.selects RX12 yX12_judge yX12_judge ∈ am_WS := am_t6 28 (by decide +kernel) rfl
set_option maxRecDepth 100000 in
theorem wc_1292 : am_co mX12_judge ∈ am_WS := am_t6 29 rfl rfl
theorem cs_L_103 : am_cvt RL 103 mX12_judge 3 := ⟨⟨by decide +kernel, by decide +kernel, by decide +kernel⟩, wd_1289, wd_1290, wd_1291, wd_80, wc_1292⟩
theorem wd_852 : Cond.methodLink RL 104 yX11_kinds ∈ am_WS := am_t4 69 (by decide +kernel) rfl
theorem wd_853 : Cond.instanceMethod yX11_kinds ∈ am_WS := am_t4 70 (by decide +kernel) rfl
theorem wd_854 : Cond.selects RX11 yX11_kinds yX11_kinds ∈ am_WS := am_t4 71 (by decide +kernel) rfl
set_option maxRecDepth 100000 in
theorem wc_855 : am_co mX11_kinds ∈ am_WS := am_t4 72 rfl rfl
theorem cs_L_104 : am_cvt RL 104 mX11_kinds 4 := ⟨⟨by decide +kernel, by decide +kernel, by decide +kernel⟩, wd_852, wd_853, wd_854, wd_64, wc_855⟩
theorem wd_1301 : Cond.methodLink RL 107 yX12_kinds ∈ am_WS := am_t6 38 (by decide +kernel) rfl
theorem wd_1302 : Cond.instanceMethod yX12_kinds ∈ am_WS := am_t6 39 (by decide +kernel) rfl
theorem wd_1303 : Cond.selects RX12 yX12_kinds yX12_kinds ∈ am_WS := am_t6 40 (by decide +kernel) rfl
set_option maxRecDepth 100000 in
theorem wc_1304 : am_co mX12_kinds ∈ am_WS := am_t6 41 rfl rfl
theorem cs_L_107 : am_cvt RL 107 mX12_kinds 4 := ⟨⟨by decide +kernel, by decide +kernel, by decide +kernel⟩, wd_1301, wd_1302, wd_1303, wd_80, wc_1304⟩
theorem wd_856 : Cond.methodLink RL 108 yX11_riches ∈ am_WS := am_t4 73 (by decide +kernel) rfl
theorem wd_857 : Cond.instanceMethod yX11_riches ∈ am_WS := am_t4 74 (by decide +kernel) rfl
theorem wd_858 : Cond.selects RX11 yX11_riches yX11_riches ∈ am_WS := am_t4 75 (by decide +kernel) rfl
set_option maxRecDepth 100000 in
theorem wc_859 : am_co mX11_riches ∈ am_WS := am_t4 76 rfl rfl
theorem cs_L_108 : am_cvt RL 108 mX11_riches 4 := ⟨⟨by decide +kernel, by decide +kernel, by decide +kernel⟩, wd_856, wd_857, wd_858, wd_64, wc_859⟩
theorem wd_1305 : Cond.methodLink RL 111 yX12_riches ∈ am_WS := am_t6 42 (by decide +kernel) rfl
theorem wd_1306 : Cond.instanceMethod yX12_riches ∈ am_WS := am_t6 43 (by decide +kernel) rfl
theorem wd_1307 : Cond.selects RX12 yX12_riches yX12_riches ∈ am_WS := am_t6 44 (by decide +kernel) rfl
set_option maxRecDepth 100000 in
theorem wc_1308 : am_co mX12_riches ∈ am_WS := am_t6 45 rfl rfl
theorem cs_L_111 : am_cvt RL 111 mX12_riches 4 := ⟨⟨by decide +kernel, by decide +kernel, by decide +kernel⟩, wd_1305, wd_1306, wd_1307, wd_80, wc_1308⟩
theorem wd_860 : Cond.methodLink RL 112 yX11_rooms ∈ am_WS := am_t4 77 (by decide +kernel) rfl
theorem wd_861 : Cond.instanceMethod yX11_rooms ∈ am_WS := am_t4 78 (by decide +kernel) rfl
theorem wd_862 : Cond.selects RX11 yX11_rooms yX11_rooms ∈ am_WS := am_t4 79 (by decide +kernel) rfl
set_option maxRecDepth 100000 in
theorem wc_863 : am_co mX11_rooms ∈ am_WS := am_t4 80 rfl rfl
theorem cs_L_112 : am_cvt RL 112 mX11_rooms 4 := ⟨⟨by decide +kernel, by decide +kernel, by decide +kernel⟩, wd_860, wd_861, wd_862, wd_64, wc_863⟩
theorem wd_1309 : Cond.methodLink RL 115 yX12_rooms ∈ am_WS := am_t6 46 (by decide +kernel) rfl
theorem wd_1310 : Cond.instanceMethod yX12_rooms ∈ am_WS := am_t6 47 (by decide +kernel) rfl
theorem wd_1311 : Cond.selects RX12 yX12_rooms yX12_rooms ∈ am_WS := am_t6 48 (by decide +kernel) rfl
set_option maxRecDepth 100000 in
theorem wc_1312 : am_co mX12_rooms ∈ am_WS := am_t6 49 rfl rfl
theorem cs_L_115 : am_cvt RL 115 mX12_rooms 4 := ⟨⟨by decide +kernel, by decide +kernel, by decide +kernel⟩, wd_1309, wd_1310, wd_1311, wd_80, wc_1312⟩
theorem wd_868 : Cond.methodLink RL 116 yX11_laws ∈ am_WS := am_t4 85 (by decide +kernel) rfl
theorem wd_869 : Cond.instanceMethod yX11_laws ∈ am_WS := am_t4 86 (by decide +kernel) rfl
theorem wd_870 : Cond.selects RX11 yX11_laws yX11_laws ∈ am_WS := am_t4 87 (by decide +kernel) rfl
set_option maxRecDepth 100000 in
theorem wc_871 : am_co mX11_laws ∈ am_WS := am_t4 88 rfl rfl
theorem cs_L_116 : am_cvt RL 116 mX11_laws 3 := ⟨⟨by decide +kernel, by decide +kernel, by decide +kernel⟩, wd_868, wd_869, wd_870, wd_64, wc_871⟩
theorem wd_1313 : Cond.methodLink RL 119 yX12_laws ∈ am_WS := am_t6 50 (by decide +kernel) rfl
theorem wd_1314 : Cond.instanceMethod yX12_laws ∈ am_WS := am_t6 51 (by decide +kernel) rfl
theorem wd_1315 : Cond.selects RX12 yX12_laws yX12_laws ∈ am_WS := am_t6 52 (by decide +kernel) rfl
set_option maxRecDepth 100000 in
theorem wc_1316 : am_co mX12_laws ∈ am_WS := am_t6 53 rfl rfl
theorem cs_L_119 : am_cvt RL 119 mX12_laws 3 := ⟨⟨by decide +kernel, by decide +kernel, by decide +kernel⟩, wd_1313, wd_1314, wd_1315, wd_80, wc_1316⟩
theorem wd_876 : Cond.methodLink RL 120 yX11_film ∈ am_WS := am_t4 93 (by decide +kernel) rfl
theorem wd_877 : Cond.instanceMethod yX11_film ∈ am_WS := am_t4 94 (by decide +kernel) rfl
theorem wd_878 : Cond.selects RX11 yX11_film yX11_film ∈ am_WS := am_t4 95 (by decide +kernel) rfl
set_option maxRecDepth 100000 in
theorem wc_879 : am_co mX11_film ∈ am_WS := am_t4 96 rfl rfl
theorem cs_L_120 : am_cvt RL 120 mX11_film 3 := ⟨⟨by decide +kernel, by decide +kernel, by decide +kernel⟩, wd_876, wd_877, wd_878, wd_64, wc_879⟩
theorem wd_1317 : Cond.methodLink RL 123 yX12_film ∈ am_WS := am_t6 54 (by decide +kernel) rfl
theorem wd_1318 : Cond.instanceMethod yX12_film ∈ am_WS := am_t6 55 (by decide +kernel) rfl
theorem wd_1319 : Cond.selects RX12 yX12_film yX12_film ∈ am_WS := am_t6 56 (by decide +kernel) rfl
set_option maxRecDepth 100000 in
theorem wc_1320 : am_co mX12_film ∈ am_WS := am_t6 57 rfl rfl
theorem cs_L_123 : am_cvt RL 123 mX12_film 3 := ⟨⟨by decide +kernel, by decide +kernel, by decide +kernel⟩, wd_1317, wd_1318, wd_1319, wd_80, wc_1320⟩
theorem wd_889 : Cond.methodLink RL 124 yX11_drawn ∈ am_WS := am_t4 106 (by decide +kernel) rfl
theorem wd_890 : Cond.instanceMethod yX11_drawn ∈ am_WS := am_t4 107 (by decide +kernel) rfl
theorem wd_891 : Cond.selects RX11 yX11_drawn yX11_drawn ∈ am_WS := am_t4 108 (by decide +kernel) rfl
set_option maxRecDepth 100000 in
theorem wc_892 : am_co mX11_drawn ∈ am_WS := am_t4 109 rfl rfl
theorem cs_L_124 : am_cvt RL 124 mX11_drawn 3 := ⟨⟨by decide +kernel, by decide +kernel, by decide +kernel⟩, wd_889, wd_890, wd_891, wd_64, wc_892⟩
theorem wd_1321 : Cond.methodLink RL 127 yX12_drawn ∈ am_WS := am_t6 58 (by decide +kernel) rfl
theorem wd_1322 : Cond.instanceMethod yX12_drawn ∈ am_WS := am_t6 59 (by decide +kernel) rfl
theorem wd_1323 : Cond.selects RX12 yX12_drawn yX12_drawn ∈ am_WS := am_t6 60 (by decide +kernel) rfl
set_option maxRecDepth 100000 in
theorem wc_1324 : am_co mX12_drawn ∈ am_WS := am_t6 61 rfl rfl
theorem cs_L_127 : am_cvt RL 127 mX12_drawn 3 := ⟨⟨by decide +kernel, by decide +kernel, by decide +kernel⟩, wd_1321, wd_1322, wd_1323, wd_80, wc_1324⟩
theorem wd_899 : Cond.methodLink RL 128 yX11_odds ∈ am_WS := am_t4 116 (by decide +kernel) rfl
theorem wd_900 : Cond.instanceMethod yX11_odds ∈ am_WS := am_t4 117 (by decide +kernel) rfl
theorem wd_901 : Cond.selects RX11 yX11_odds yX11_odds ∈ am_WS := am_t4 118 (by decide +kernel) rfl
set_option maxRecDepth 100000 in
theorem wc_902 : am_co mX11_odds ∈ am_WS := am_t4 119 rfl rfl
theorem cs_L_128 : am_cvt RL 128 mX11_odds 4 := ⟨⟨by decide +kernel, by decide +kernel, by decide +kernel⟩, wd_899, wd_900, wd_901, wd_64, wc_902⟩
theorem wd_1331 : Cond.methodLink RL 131 yX12_odds ∈ am_WS := am_t6 68 (by decide +kernel) rfl
theorem wd_1332 : Cond.instanceMethod yX12_odds ∈ am_WS := am_t6 69 (by decide +kernel) rfl
theorem wd_1333 : Cond.selects RX12 yX12_odds yX12_odds ∈ am_WS := am_t6 70 (by decide +kernel) rfl
set_option maxRecDepth 100000 in
theorem wc_1334 : am_co mX12_odds ∈ am_WS := am_t6 71 rfl rfl
theorem cs_L_131 : am_cvt RL 131 mX12_odds 4 := ⟨⟨by decide +kernel, by decide +kernel, by decide +kernel⟩, wd_1331, wd_1332, wd_1333, wd_80, wc_1334⟩
theorem wd_903 : Cond.methodLink RL 132 yX11_image ∈ am_WS := am_t4 120 (by decide +kernel) rfl
theorem wd_904 : Cond.instanceMethod yX11_image ∈ am_WS := am_t4 121 (by decide +kernel) rfl
theorem wd_905 : Cond.selects RX11 yX11_image yX11_image ∈ am_WS := am_t4 122 (by decide +kernel) rfl
set_option maxRecDepth 100000 in
theorem wc_906 : am_co mX11_image ∈ am_WS := am_t4 123 rfl rfl
theorem cs_L_132 : am_cvt RL 132 mX11_image 0 := ⟨⟨by decide +kernel, by decide +kernel, by decide +kernel⟩, wd_903, wd_904, wd_905, wd_64, wc_906⟩
theorem wd_1336 : Cond.methodLink RL 135 yX12_image ∈ am_WS := am_t6 73 (by decide +kernel) rfl
theorem wd_1337 : Cond.instanceMethod yX12_image ∈ am_WS := am_t6 74 (by decide +kernel) rfl
theorem wd_1338 : Cond.selects RX12 yX12_image yX12_image ∈ am_WS := am_t6 75 (by decide +kernel) rfl
set_option maxRecDepth 100000 in
theorem wc_1339 : am_co mX12_image ∈ am_WS := am_t6 76 rfl rfl
theorem cs_L_135 : am_cvt RL 135 mX12_image 0 := ⟨⟨by decide +kernel, by decide +kernel, by decide +kernel⟩, wd_1336, wd_1337, wd_1338, wd_80, wc_1339⟩
theorem wd_913 : Cond.methodLink RL 136 yX11_back ∈ am_WS := am_t4 130 (by decide +kernel) rfl
theorem wd_914 : Cond.instanceMethod yX11_back ∈ am_WS := am_t4 131 (by decide +kernel) rfl
theorem wd_915 : Cond.selects RX11 yX11_back yX11_back ∈ am_WS := am_t4 132 (by decide +kernel) rfl
set_option maxRecDepth 100000 in
theorem wc_916 : am_co mX11_back ∈ am_WS := am_t4 133 rfl rfl
theorem cs_L_136 : am_cvt RL 136 mX11_back 0 := ⟨⟨by decide +kernel, by decide +kernel, by decide +kernel⟩, wd_913, wd_914, wd_915, wd_64, wc_916⟩
theorem wd_1340 : Cond.methodLink RL 139 yX12_back ∈ am_WS := am_t6 77 (by decide +kernel) rfl
theorem wd_1341 : Cond.instanceMethod yX12_back ∈ am_WS := am_t6 78 (by decide +kernel) rfl
theorem wd_1342 : Cond.selects RX12 yX12_back yX12_back ∈ am_WS := am_t6 79 (by decide +kernel) rfl
set_option maxRecDepth 100000 in
theorem wc_1343 : am_co mX12_back ∈ am_WS := am_t6 80 rfl rfl
theorem cs_L_139 : am_cvt RL 139 mX12_back 0 := ⟨⟨by decide +kernel, by decide +kernel, by decide +kernel⟩, wd_1340, wd_1341, wd_1342, wd_80, wc_1343⟩
theorem wd_917 : Cond.methodLink RL 140 yX11_sheet ∈ am_WS := am_t4 134 (by decide +kernel) rfl
theorem wd_918 : Cond.instanceMethod yX11_sheet ∈ am_WS := am_t4 135 (by decide +kernel) rfl
theorem wd_919 : Cond.selects RX11 yX11_sheet yX11_sheet ∈ am_WS := am_t4 136 (by decide +kernel) rfl
set_option maxRecDepth 100000 in
theorem wc_920 : am_co mX11_sheet ∈ am_WS := am_t4 137 rfl rfl
theorem cs_L_140 : am_cvt RL 140 mX11_sheet 3 := ⟨⟨by decide +kernel, by decide +kernel, by decide +kernel⟩, wd_917, wd_918, wd_919, wd_64, wc_920⟩
theorem wd_1344 : Cond.methodLink RL 143 yX12_sheet ∈ am_WS := am_t6 81 (by decide +kernel) rfl
theorem wd_1345 : Cond.instanceMethod yX12_sheet ∈ am_WS := am_t6 82 (by decide +kernel) rfl
theorem wd_1346 : Cond.selects RX12 yX12_sheet yX12_sheet ∈ am_WS := am_t6 83 (by decide +kernel) rfl
set_option maxRecDepth 100000 in
theorem wc_1347 : am_co mX12_sheet ∈ am_WS := am_t6 84 rfl rfl
theorem cs_L_143 : am_cvt RL 143 mX12_sheet 3 := ⟨⟨by decide +kernel, by decide +kernel, by decide +kernel⟩, wd_1344, wd_1345, wd_1346, wd_80, wc_1347⟩
theorem wd_921 : Cond.methodLink RL 144 yX11_cell ∈ am_WS := am_t4 138 (by decide +kernel) rfl
theorem wd_922 : Cond.instanceMethod yX11_cell ∈ am_WS := am_t4 139 (by decide +kernel) rfl
theorem wd_923 : Cond.selects RX11 yX11_cell yX11_cell ∈ am_WS := am_t4 140 (by decide +kernel) rfl
set_option maxRecDepth 100000 in
theorem wc_924 : am_co mX11_cell ∈ am_WS := am_t4 141 rfl rfl
theorem cs_L_144 : am_cvt RL 144 mX11_cell 3 := ⟨⟨by decide +kernel, by decide +kernel, by decide +kernel⟩, wd_921, wd_922, wd_923, wd_64, wc_924⟩
theorem wd_1348 : Cond.methodLink RL 147 yX12_cell ∈ am_WS := am_t6 85 (by decide +kernel) rfl
theorem wd_1349 : Cond.instanceMethod yX12_cell ∈ am_WS := am_t6 86 (by decide +kernel) rfl
theorem wd_1350 : Cond.selects RX12 yX12_cell yX12_cell ∈ am_WS := am_t6 87 (by decide +kernel) rfl
set_option maxRecDepth 100000 in
theorem wc_1351 : am_co mX12_cell ∈ am_WS := am_t6 88 rfl rfl
theorem cs_L_147 : am_cvt RL 147 mX12_cell 3 := ⟨⟨by decide +kernel, by decide +kernel, by decide +kernel⟩, wd_1348, wd_1349, wd_1350, wd_80, wc_1351⟩
theorem wd_925 : Cond.methodLink RL 148 yX11_copy ∈ am_WS := am_t4 142 (by decide +kernel) rfl
theorem wd_926 : Cond.instanceMethod yX11_copy ∈ am_WS := am_t4 143 (by decide +kernel) rfl
theorem wd_927 : Cond.selects RX11 yX11_copy yX11_copy ∈ am_WS := am_t4 144 (by decide +kernel) rfl
set_option maxRecDepth 100000 in
theorem wc_928 : am_co mX11_copy ∈ am_WS := am_t4 145 rfl rfl
theorem cs_L_148 : am_cvt RL 148 mX11_copy 5 := ⟨⟨by decide +kernel, by decide +kernel, by decide +kernel⟩, wd_925, wd_926, wd_927, wd_64, wc_928⟩
theorem wd_1352 : Cond.methodLink RL 152 yX12_copy ∈ am_WS := am_t6 89 (by decide +kernel) rfl
theorem wd_1353 : Cond.instanceMethod yX12_copy ∈ am_WS := am_t6 90 (by decide +kernel) rfl
theorem wd_1354 : Cond.selects RX12 yX12_copy yX12_copy ∈ am_WS := am_t6 91 (by decide +kernel) rfl
set_option maxRecDepth 100000 in
theorem wc_1355 : am_co mX12_copy ∈ am_WS := am_t6 92 rfl rfl
theorem cs_L_152 : am_cvt RL 152 mX12_copy 5 := ⟨⟨by decide +kernel, by decide +kernel, by decide +kernel⟩, wd_1352, wd_1353, wd_1354, wd_80, wc_1355⟩
theorem wd_944 : Cond.methodLink RL 153 yX11_viewersBy ∈ am_WS := am_t4 161 (by decide +kernel) rfl
theorem wd_945 : Cond.instanceMethod yX11_viewersBy ∈ am_WS := am_t4 162 (by decide +kernel) rfl
theorem wd_946 : Cond.selects RX11 yX11_viewersBy yX11_viewersBy ∈ am_WS := am_t4 163 (by decide +kernel) rfl
set_option maxRecDepth 100000 in
theorem wc_947 : am_co mX11_viewersBy ∈ am_WS := am_t4 164 rfl rfl
theorem cs_L_153 : am_cvt RL 153 mX11_viewersBy 4 := ⟨⟨by decide +kernel, by decide +kernel, by decide +kernel⟩, wd_944, wd_945, wd_946, wd_64, wc_947⟩
theorem wd_1356 : Cond.methodLink RL 156 yX12_viewersBy ∈ am_WS := am_t6 93 (by decide +kernel) rfl
theorem wd_1357 : Cond.instanceMethod yX12_viewersBy ∈ am_WS := am_t6 94 (by decide +kernel) rfl
theorem wd_1358 : Cond.selects RX12 yX12_viewersBy yX12_viewersBy ∈ am_WS := am_t6 95 (by decide +kernel) rfl
set_option maxRecDepth 100000 in
theorem wc_1359 : am_co mX12_viewersBy ∈ am_WS := am_t6 96 rfl rfl
theorem cs_L_156 : am_cvt RL 156 mX12_viewersBy 4 := ⟨⟨by decide +kernel, by decide +kernel, by decide +kernel⟩, wd_1356, wd_1357, wd_1358, wd_80, wc_1359⟩
theorem wd_949 : Cond.methodLink RL 157 yX11_taken ∈ am_WS := am_t4 166 (by decide +kernel) rfl
theorem wd_950 : Cond.instanceMethod yX11_taken ∈ am_WS := am_t4 167 (by decide +kernel) rfl
theorem wd_951 : Cond.selects RX11 yX11_taken yX11_taken ∈ am_WS := am_t4 168 (by decide +kernel) rfl
set_option maxRecDepth 100000 in
theorem wc_952 : am_co mX11_taken ∈ am_WS := am_t4 169 rfl rfl
theorem cs_L_157 : am_cvt RL 157 mX11_taken 2 := ⟨⟨by decide +kernel, by decide +kernel, by decide +kernel⟩, wd_949, wd_950, wd_951, wd_64, wc_952⟩
theorem wd_1361 : Cond.methodLink RL 160 yX12_taken ∈ am_WS := am_t6 98 (by decide +kernel) rfl
theorem wd_1362 : Cond.instanceMethod yX12_taken ∈ am_WS := am_t6 99 (by decide +kernel) rfl
theorem wd_1363 : Cond.selects RX12 yX12_taken yX12_taken ∈ am_WS := am_t6 100 (by decide +kernel) rfl
set_option maxRecDepth 100000 in
theorem wc_1364 : am_co mX12_taken ∈ am_WS := am_t6 101 rfl rfl
theorem cs_L_160 : am_cvt RL 160 mX12_taken 2 := ⟨⟨by decide +kernel, by decide +kernel, by decide +kernel⟩, wd_1361, wd_1362, wd_1363, wd_80, wc_1364⟩
theorem wd_970 : Cond.methodLink RX12 90 yX12_in ∈ am_WS := am_t4 187 (by decide +kernel) rfl
theorem wd_971 : Cond.static yX12_in ∈ am_WS := am_t4 188 (by decide +kernel) rfl
set_option maxRecDepth 100000 in
theorem wc_972 : am_co mX12_in ∈ am_WS := am_t4 189 rfl rfl
theorem cs_X12_90 : am_cs RX12 90 mX12_in 3 := ⟨⟨by decide +kernel, by decide +kernel, by decide +kernel⟩, wd_970, wd_971, wd_80, wc_972⟩
theorem wd_1139 : Cond.methodLink RX12 100 yX12_isRoom ∈ am_WS := am_t5 116 (by decide +kernel) rfl
theorem wd_1140 : Cond.static yX12_isRoom ∈ am_WS := am_t5 117 (by decide +kernel) rfl
set_option maxRecDepth 100000 in
theorem wc_1141 : am_co mX12_isRoom ∈ am_WS := am_t5 118 rfl rfl
theorem cs_X12_100 : am_cs RX12 100 mX12_isRoom 1 := ⟨⟨by decide +kernel, by decide +kernel, by decide +kernel⟩, wd_1139, wd_1140, wd_80, wc_1141⟩
theorem wd_1150 : Cond.methodLink RX12 104 yX12_isByte ∈ am_WS := am_t5 127 (by decide +kernel) rfl
theorem wd_1151 : Cond.static yX12_isByte ∈ am_WS := am_t5 128 (by decide +kernel) rfl
set_option maxRecDepth 100000 in
theorem wc_1152 : am_co mX12_isByte ∈ am_WS := am_t5 129 rfl rfl
theorem cs_X12_104 : am_cs RX12 104 mX12_isByte 1 := ⟨⟨by decide +kernel, by decide +kernel, by decide +kernel⟩, wd_1150, wd_1151, wd_80, wc_1152⟩
theorem wd_990 : Cond.methodLink RX12 129 yX12_rank ∈ am_WS := am_t4 207 (by decide +kernel) rfl
theorem wd_991 : Cond.static yX12_rank ∈ am_WS := am_t4 208 (by decide +kernel) rfl
set_option maxRecDepth 100000 in
theorem wc_992 : am_co mX12_rank ∈ am_WS := am_t4 209 rfl rfl
theorem cs_X12_129 : am_cs RX12 129 mX12_rank 1 := ⟨⟨by decide +kernel, by decide +kernel, by decide +kernel⟩, wd_990, wd_991, wd_80, wc_992⟩
theorem wd_1174 : Cond.methodLink RX12 163 yX12_two ∈ am_WS := am_t5 151 (by decide +kernel) rfl
theorem wd_1175 : Cond.static yX12_two ∈ am_WS := am_t5 152 (by decide +kernel) rfl
set_option maxRecDepth 100000 in
theorem wc_1176 : am_co mX12_two ∈ am_WS := am_t5 153 rfl rfl
theorem cs_X12_163 : am_cs RX12 163 mX12_two 3 := ⟨⟨by decide +kernel, by decide +kernel, by decide +kernel⟩, wd_1174, wd_1175, wd_80, wc_1176⟩
theorem wd_1177 : Cond.methodLink RX12 170 yX12_within ∈ am_WS := am_t5 154 (by decide +kernel) rfl
theorem wd_1178 : Cond.static yX12_within ∈ am_WS := am_t5 155 (by decide +kernel) rfl
set_option maxRecDepth 100000 in
theorem wc_1179 : am_co mX12_within ∈ am_WS := am_t5 156 rfl rfl
theorem cs_X12_170 : am_cs RX12 170 mX12_within 3 := ⟨⟨by decide +kernel, by decide +kernel, by decide +kernel⟩, wd_1177, wd_1178, wd_80, wc_1179⟩
theorem wd_1286 : Cond.methodLink RX12 241 yX12_lowest ∈ am_WS := am_t6 23 (by decide +kernel) rfl
theorem wd_1287 : Cond.static yX12_lowest ∈ am_WS := am_t6 24 (by decide +kernel) rfl
set_option maxRecDepth 100000 in
theorem wc_1288 : am_co mX12_lowest ∈ am_WS := am_t6 25 rfl rfl
theorem cs_X12_241 : am_cs RX12 241 mX12_lowest 3 := ⟨⟨by decide +kernel, by decide +kernel, by decide +kernel⟩, wd_1286, wd_1287, wd_80, wc_1288⟩
theorem wd_1365 : Cond.methodLink RX12 266 yX12_isUnder ∈ am_WS := am_t6 102 (by decide +kernel) rfl
theorem wd_1366 : Cond.static yX12_isUnder ∈ am_WS := am_t6 103 (by decide +kernel) rfl
set_option maxRecDepth 100000 in
theorem wc_1367 : am_co mX12_isUnder ∈ am_WS := am_t6 104 rfl rfl
theorem cs_X12_266 : am_cs RX12 266 mX12_isUnder 2 := ⟨⟨by decide +kernel, by decide +kernel, by decide +kernel⟩, wd_1365, wd_1366, wd_80, wc_1367⟩
theorem wd_962 : Cond.methodLink RX12 83 yX12_text ∈ am_WS := am_t4 179 (by decide +kernel) rfl
theorem cs_X12_83 : am_cvt RX12 83 mX12_text 0 := ⟨⟨by decide +kernel, by decide +kernel, by decide +kernel⟩, wd_962, wd_963, wd_964, wd_80, wc_965⟩
theorem wd_973 : Cond.methodLink RX12 119 yX12_wordFrom ∈ am_WS := am_t4 190 (by decide +kernel) rfl
theorem wd_975 : Cond.instanceMethod yX12_wordFrom ∈ am_WS := am_t4 192 (by decide +kernel) rfl
theorem wd_36 : Cond.selects RX12 yX12_wordFrom yX12_wordFrom ∈ am_WS := am_ts 36 (by decide +kernel) rfl
set_option maxRecDepth 100000 in
theorem wc_976 : am_co mX12_wordFrom ∈ am_WS := am_t4 193 rfl rfl
theorem cs_X12_119 : am_cvt RX12 119 mX12_wordFrom 2 := ⟨⟨by decide +kernel, by decide +kernel, by decide +kernel⟩, wd_973, wd_975, wd_36, wd_80, wc_976⟩
theorem wd_982 : Cond.methodLink RX12 136 yX12_puts ∈ am_WS := am_t4 199 (by decide +kernel) rfl
theorem wd_984 : Cond.instanceMethod yX12_puts ∈ am_WS := am_t4 201 (by decide +kernel) rfl
theorem wd_38 : Cond.selects RX12 yX12_puts yX12_puts ∈ am_WS := am_ts 38 (by decide +kernel) rfl
set_option maxRecDepth 100000 in
theorem wc_985 : am_co mX12_puts ∈ am_WS := am_t4 202 rfl rfl
theorem cs_X12_136 : am_cvt RX12 136 mX12_puts 1 := ⟨⟨by decide +kernel, by decide +kernel, by decide +kernel⟩, wd_982, wd_984, wd_38, wd_80, wc_985⟩
theorem wd_997 : Cond.methodLink RX12 140 yX12_holds ∈ am_WS := am_t4 214 (by decide +kernel) rfl
theorem wd_999 : Cond.instanceMethod yX12_holds ∈ am_WS := am_t4 216 (by decide +kernel) rfl
theorem wd_41 : Cond.selects RX12 yX12_holds yX12_holds ∈ am_WS := am_ts 41 (by decide +kernel) rfl
set_option maxRecDepth 100000 in
theorem wc_1000 : am_co mX12_holds ∈ am_WS := am_t4 217 rfl rfl
theorem cs_X12_140 : am_cvt RX12 140 mX12_holds 1 := ⟨⟨by decide +kernel, by decide +kernel, by decide +kernel⟩, wd_997, wd_999, wd_41, wd_80, wc_1000⟩
theorem wd_986 : Cond.methodLink RX12 143 yX12_unwinds ∈ am_WS := am_t4 203 (by decide +kernel) rfl
theorem wd_988 : Cond.instanceMethod yX12_unwinds ∈ am_WS := am_t4 205 (by decide +kernel) rfl
theorem wd_39 : Cond.selects RX12 yX12_unwinds yX12_unwinds ∈ am_WS := am_ts 39 (by decide +kernel) rfl
set_option maxRecDepth 100000 in
theorem wc_989 : am_co mX12_unwinds ∈ am_WS := am_t4 206 rfl rfl
theorem cs_X12_143 : am_cvt RX12 143 mX12_unwinds 1 := ⟨⟨by decide +kernel, by decide +kernel, by decide +kernel⟩, wd_986, wd_988, wd_39, wd_80, wc_989⟩
theorem wd_966 : Cond.methodLink RX12 146 yX12_next ∈ am_WS := am_t4 183 (by decide +kernel) rfl
theorem wd_968 : Cond.instanceMethod yX12_next ∈ am_WS := am_t4 185 (by decide +kernel) rfl
theorem wd_35 : Cond.selects RX12 yX12_next yX12_next ∈ am_WS := am_ts 35 (by decide +kernel) rfl
set_option maxRecDepth 100000 in
theorem wc_969 : am_co mX12_next ∈ am_WS := am_t4 186 rfl rfl
theorem cs_X12_146 : am_cvt RX12 146 mX12_next 0 := ⟨⟨by decide +kernel, by decide +kernel, by decide +kernel⟩, wd_966, wd_968, wd_35, wd_80, wc_969⟩
theorem wd_993 : Cond.methodLink RX12 150 yX12_opensOne ∈ am_WS := am_t4 210 (by decide +kernel) rfl
theorem wd_995 : Cond.instanceMethod yX12_opensOne ∈ am_WS := am_t4 212 (by decide +kernel) rfl
theorem wd_40 : Cond.selects RX12 yX12_opensOne yX12_opensOne ∈ am_WS := am_ts 40 (by decide +kernel) rfl
set_option maxRecDepth 100000 in
theorem wc_996 : am_co mX12_opensOne ∈ am_WS := am_t4 213 rfl rfl
theorem cs_X12_150 : am_cvt RX12 150 mX12_opensOne 1 := ⟨⟨by decide +kernel, by decide +kernel, by decide +kernel⟩, wd_993, wd_995, wd_40, wd_80, wc_996⟩
theorem wd_1001 : Cond.methodLink RX12 153 yX12_signOf ∈ am_WS := am_t4 218 (by decide +kernel) rfl
theorem wd_1003 : Cond.instanceMethod yX12_signOf ∈ am_WS := am_t4 220 (by decide +kernel) rfl
theorem wd_42 : Cond.selects RX12 yX12_signOf yX12_signOf ∈ am_WS := am_ts 42 (by decide +kernel) rfl
set_option maxRecDepth 100000 in
theorem wc_1004 : am_co mX12_signOf ∈ am_WS := am_t4 221 rfl rfl
theorem cs_X12_153 : am_cvt RX12 153 mX12_signOf 0 := ⟨⟨by decide +kernel, by decide +kernel, by decide +kernel⟩, wd_1001, wd_1003, wd_42, wd_80, wc_1004⟩
theorem wd_1005 : Cond.methodLink RX12 156 yX12_between ∈ am_WS := am_t4 222 (by decide +kernel) rfl
theorem wd_1007 : Cond.instanceMethod yX12_between ∈ am_WS := am_t4 224 (by decide +kernel) rfl
theorem wd_43 : Cond.selects RX12 yX12_between yX12_between ∈ am_WS := am_ts 43 (by decide +kernel) rfl
set_option maxRecDepth 100000 in
theorem wc_1008 : am_co mX12_between ∈ am_WS := am_t4 225 rfl rfl
theorem cs_X12_156 : am_cvt RX12 156 mX12_between 1 := ⟨⟨by decide +kernel, by decide +kernel, by decide +kernel⟩, wd_1005, wd_1007, wd_43, wd_80, wc_1008⟩
theorem wd_977 : Cond.methodLink RX12 159 yX12_eRead ∈ am_WS := am_t4 194 (by decide +kernel) rfl
theorem wd_979 : Cond.instanceMethod yX12_eRead ∈ am_WS := am_t4 196 (by decide +kernel) rfl
theorem wd_37 : Cond.selects RX12 yX12_eRead yX12_eRead ∈ am_WS := am_ts 37 (by decide +kernel) rfl
set_option maxRecDepth 100000 in
theorem wc_980 : am_co mX12_eRead ∈ am_WS := am_t4 197 rfl rfl
theorem cs_X12_159 : am_cvt RX12 159 mX12_eRead 0 := ⟨⟨by decide +kernel, by decide +kernel, by decide +kernel⟩, wd_977, wd_979, wd_37, wd_80, wc_980⟩
theorem wd_1170 : Cond.methodLink RX12 167 yX12_says ∈ am_WS := am_t5 147 (by decide +kernel) rfl
theorem wd_1172 : Cond.instanceMethod yX12_says ∈ am_WS := am_t5 149 (by decide +kernel) rfl
theorem wd_46 : Cond.selects RX12 yX12_says yX12_says ∈ am_WS := am_ts 46 (by decide +kernel) rfl
set_option maxRecDepth 100000 in
theorem wc_1173 : am_co mX12_says ∈ am_WS := am_t5 150 rfl rfl
theorem cs_X12_167 : am_cvt RX12 167 mX12_says 1 := ⟨⟨by decide +kernel, by decide +kernel, by decide +kernel⟩, wd_1170, wd_1172, wd_46, wd_80, wc_1173⟩
theorem wd_1162 : Cond.methodLink RX12 173 yX12_isViewer ∈ am_WS := am_t5 139 (by decide +kernel) rfl
theorem wd_1164 : Cond.instanceMethod yX12_isViewer ∈ am_WS := am_t5 141 (by decide +kernel) rfl
theorem wd_44 : Cond.selects RX12 yX12_isViewer yX12_isViewer ∈ am_WS := am_ts 44 (by decide +kernel) rfl
set_option maxRecDepth 100000 in
theorem wc_1165 : am_co mX12_isViewer ∈ am_WS := am_t5 142 rfl rfl
theorem cs_X12_173 : am_cvt RX12 173 mX12_isViewer 1 := ⟨⟨by decide +kernel, by decide +kernel, by decide +kernel⟩, wd_1162, wd_1164, wd_44, wd_80, wc_1165⟩
theorem wd_1166 : Cond.methodLink RX12 176 yX12_asksOf ∈ am_WS := am_t5 143 (by decide +kernel) rfl
theorem wd_1168 : Cond.instanceMethod yX12_asksOf ∈ am_WS := am_t5 145 (by decide +kernel) rfl
theorem wd_45 : Cond.selects RX12 yX12_asksOf yX12_asksOf ∈ am_WS := am_ts 45 (by decide +kernel) rfl
set_option maxRecDepth 100000 in
theorem wc_1169 : am_co mX12_asksOf ∈ am_WS := am_t5 146 rfl rfl
theorem cs_X12_176 : am_cvt RX12 176 mX12_asksOf 4 := ⟨⟨by decide +kernel, by decide +kernel, by decide +kernel⟩, wd_1166, wd_1168, wd_45, wd_80, wc_1169⟩
theorem wd_1203 : Cond.methodLink RX12 184 yX12_likesOf ∈ am_WS := am_t5 180 (by decide +kernel) rfl
theorem wd_1205 : Cond.instanceMethod yX12_likesOf ∈ am_WS := am_t5 182 (by decide +kernel) rfl
theorem wd_48 : Cond.selects RX12 yX12_likesOf yX12_likesOf ∈ am_WS := am_ts 48 (by decide +kernel) rfl
set_option maxRecDepth 100000 in
theorem wc_1206 : am_co mX12_likesOf ∈ am_WS := am_t5 183 rfl rfl
theorem cs_X12_184 : am_cvt RX12 184 mX12_likesOf 3 := ⟨⟨by decide +kernel, by decide +kernel, by decide +kernel⟩, wd_1203, wd_1205, wd_48, wd_80, wc_1206⟩
theorem wd_1211 : Cond.methodLink RX12 187 yX12_keepsOf ∈ am_WS := am_t5 188 (by decide +kernel) rfl
theorem wd_1213 : Cond.instanceMethod yX12_keepsOf ∈ am_WS := am_t5 190 (by decide +kernel) rfl
theorem wd_50 : Cond.selects RX12 yX12_keepsOf yX12_keepsOf ∈ am_WS := am_ts 50 (by decide +kernel) rfl
set_option maxRecDepth 100000 in
theorem wc_1214 : am_co mX12_keepsOf ∈ am_WS := am_t5 191 rfl rfl
theorem cs_X12_187 : am_cvt RX12 187 mX12_keepsOf 6 := ⟨⟨by decide +kernel, by decide +kernel, by decide +kernel⟩, wd_1211, wd_1213, wd_50, wd_80, wc_1214⟩
theorem wd_1207 : Cond.methodLink RX12 191 yX12_mindOf ∈ am_WS := am_t5 184 (by decide +kernel) rfl
theorem wd_1209 : Cond.instanceMethod yX12_mindOf ∈ am_WS := am_t5 186 (by decide +kernel) rfl
theorem wd_49 : Cond.selects RX12 yX12_mindOf yX12_mindOf ∈ am_WS := am_ts 49 (by decide +kernel) rfl
set_option maxRecDepth 100000 in
theorem wc_1210 : am_co mX12_mindOf ∈ am_WS := am_t5 187 rfl rfl
theorem cs_X12_191 : am_cvt RX12 191 mX12_mindOf 2 := ⟨⟨by decide +kernel, by decide +kernel, by decide +kernel⟩, wd_1207, wd_1209, wd_49, wd_80, wc_1210⟩
theorem wd_1219 : Cond.methodLink RX12 194 yX12_offersOf ∈ am_WS := am_t5 196 (by decide +kernel) rfl
theorem wd_1221 : Cond.instanceMethod yX12_offersOf ∈ am_WS := am_t5 198 (by decide +kernel) rfl
theorem wd_52 : Cond.selects RX12 yX12_offersOf yX12_offersOf ∈ am_WS := am_ts 52 (by decide +kernel) rfl
set_option maxRecDepth 100000 in
theorem wc_1222 : am_co mX12_offersOf ∈ am_WS := am_t5 199 rfl rfl
theorem cs_X12_194 : am_cvt RX12 194 mX12_offersOf 3 := ⟨⟨by decide +kernel, by decide +kernel, by decide +kernel⟩, wd_1219, wd_1221, wd_52, wd_80, wc_1222⟩
theorem wd_1197 : Cond.methodLink RX12 197 yX12_reads ∈ am_WS := am_t5 174 (by decide +kernel) rfl
theorem wd_1199 : Cond.instanceMethod yX12_reads ∈ am_WS := am_t5 176 (by decide +kernel) rfl
theorem wd_47 : Cond.selects RX12 yX12_reads yX12_reads ∈ am_WS := am_ts 47 (by decide +kernel) rfl
set_option maxRecDepth 100000 in
theorem wc_1200 : am_co mX12_reads ∈ am_WS := am_t5 177 rfl rfl
theorem cs_X12_197 : am_cvt RX12 197 mX12_reads 1 := ⟨⟨by decide +kernel, by decide +kernel, by decide +kernel⟩, wd_1197, wd_1199, wd_47, wd_80, wc_1200⟩
theorem wd_1215 : Cond.methodLink RX12 202 yX12_offerOf ∈ am_WS := am_t5 192 (by decide +kernel) rfl
theorem wd_1217 : Cond.instanceMethod yX12_offerOf ∈ am_WS := am_t5 194 (by decide +kernel) rfl
theorem wd_51 : Cond.selects RX12 yX12_offerOf yX12_offerOf ∈ am_WS := am_ts 51 (by decide +kernel) rfl
set_option maxRecDepth 100000 in
theorem wc_1218 : am_co mX12_offerOf ∈ am_WS := am_t5 195 rfl rfl
theorem cs_X12_202 : am_cvt RX12 202 mX12_offerOf 2 := ⟨⟨by decide +kernel, by decide +kernel, by decide +kernel⟩, wd_1215, wd_1217, wd_51, wd_80, wc_1218⟩
theorem wd_1235 : Cond.methodLink RX12 205 yX12_crowdOf ∈ am_WS := am_t5 212 (by decide +kernel) rfl
theorem wd_1237 : Cond.instanceMethod yX12_crowdOf ∈ am_WS := am_t5 214 (by decide +kernel) rfl
theorem wd_55 : Cond.selects RX12 yX12_crowdOf yX12_crowdOf ∈ am_WS := am_ts 55 (by decide +kernel) rfl
set_option maxRecDepth 100000 in
theorem wc_1238 : am_co mX12_crowdOf ∈ am_WS := am_t5 215 rfl rfl
theorem cs_X12_205 : am_cvt RX12 205 mX12_crowdOf 1 := ⟨⟨by decide +kernel, by decide +kernel, by decide +kernel⟩, wd_1235, wd_1237, wd_55, wd_80, wc_1238⟩
theorem wd_1227 : Cond.methodLink RX12 217 yX12_isSome ∈ am_WS := am_t5 204 (by decide +kernel) rfl
theorem wd_1229 : Cond.instanceMethod yX12_isSome ∈ am_WS := am_t5 206 (by decide +kernel) rfl
theorem wd_53 : Cond.selects RX12 yX12_isSome yX12_isSome ∈ am_WS := am_ts 53 (by decide +kernel) rfl
set_option maxRecDepth 100000 in
theorem wc_1230 : am_co mX12_isSome ∈ am_WS := am_t5 207 rfl rfl
theorem cs_X12_217 : am_cvt RX12 217 mX12_isSome 1 := ⟨⟨by decide +kernel, by decide +kernel, by decide +kernel⟩, wd_1227, wd_1229, wd_53, wd_80, wc_1230⟩
theorem wd_1231 : Cond.methodLink RX12 220 yX12_shows ∈ am_WS := am_t5 208 (by decide +kernel) rfl
theorem wd_1233 : Cond.instanceMethod yX12_shows ∈ am_WS := am_t5 210 (by decide +kernel) rfl
theorem wd_54 : Cond.selects RX12 yX12_shows yX12_shows ∈ am_WS := am_ts 54 (by decide +kernel) rfl
set_option maxRecDepth 100000 in
theorem wc_1234 : am_co mX12_shows ∈ am_WS := am_t5 211 rfl rfl
theorem cs_X12_220 : am_cvt RX12 220 mX12_shows 1 := ⟨⟨by decide +kernel, by decide +kernel, by decide +kernel⟩, wd_1231, wd_1233, wd_54, wd_80, wc_1234⟩
theorem wd_1244 : Cond.methodLink RX12 224 yX12_addsMinds ∈ am_WS := am_t5 221 (by decide +kernel) rfl
theorem wd_1246 : Cond.instanceMethod yX12_addsMinds ∈ am_WS := am_t5 223 (by decide +kernel) rfl
theorem wd_56 : Cond.selects RX12 yX12_addsMinds yX12_addsMinds ∈ am_WS := am_ts 56 (by decide +kernel) rfl
set_option maxRecDepth 100000 in
theorem wc_1247 : am_co mX12_addsMinds ∈ am_WS := am_t5 224 rfl rfl
theorem cs_X12_224 : am_cvt RX12 224 mX12_addsMinds 2 := ⟨⟨by decide +kernel, by decide +kernel, by decide +kernel⟩, wd_1244, wd_1246, wd_56, wd_80, wc_1247⟩
theorem wd_1249 : Cond.methodLink RX12 229 yX12_digitsOf ∈ am_WS := am_t5 226 (by decide +kernel) rfl
theorem wd_1251 : Cond.instanceMethod yX12_digitsOf ∈ am_WS := am_t5 228 (by decide +kernel) rfl
theorem wd_57 : Cond.selects RX12 yX12_digitsOf yX12_digitsOf ∈ am_WS := am_ts 57 (by decide +kernel) rfl
set_option maxRecDepth 100000 in
theorem wc_1252 : am_co mX12_digitsOf ∈ am_WS := am_t5 229 rfl rfl
theorem cs_X12_229 : am_cvt RX12 229 mX12_digitsOf 1 := ⟨⟨by decide +kernel, by decide +kernel, by decide +kernel⟩, wd_1249, wd_1251, wd_57, wd_80, wc_1252⟩
theorem wd_1278 : Cond.methodLink RX12 234 yX12_isOrder ∈ am_WS := am_t6 15 (by decide +kernel) rfl
theorem wd_1280 : Cond.instanceMethod yX12_isOrder ∈ am_WS := am_t6 17 (by decide +kernel) rfl
theorem wd_58 : Cond.selects RX12 yX12_isOrder yX12_isOrder ∈ am_WS := am_ts 58 (by decide +kernel) rfl
set_option maxRecDepth 100000 in
theorem wc_1281 : am_co mX12_isOrder ∈ am_WS := am_t6 18 rfl rfl
theorem cs_X12_234 : am_cvt RX12 234 mX12_isOrder 2 := ⟨⟨by decide +kernel, by decide +kernel, by decide +kernel⟩, wd_1278, wd_1280, wd_58, wd_80, wc_1281⟩
theorem wd_1282 : Cond.methodLink RX12 238 yX12_takenOf ∈ am_WS := am_t6 19 (by decide +kernel) rfl
theorem wd_1284 : Cond.instanceMethod yX12_takenOf ∈ am_WS := am_t6 21 (by decide +kernel) rfl
theorem wd_59 : Cond.selects RX12 yX12_takenOf yX12_takenOf ∈ am_WS := am_ts 59 (by decide +kernel) rfl
set_option maxRecDepth 100000 in
theorem wc_1285 : am_co mX12_takenOf ∈ am_WS := am_t6 22 rfl rfl
theorem cs_X12_238 : am_cvt RX12 238 mX12_takenOf 2 := ⟨⟨by decide +kernel, by decide +kernel, by decide +kernel⟩, wd_1282, wd_1284, wd_59, wd_80, wc_1285⟩
theorem wd_1293 : Cond.methodLink RX12 245 yX12_toldWrong ∈ am_WS := am_t6 30 (by decide +kernel) rfl
theorem wd_1295 : Cond.instanceMethod yX12_toldWrong ∈ am_WS := am_t6 32 (by decide +kernel) rfl
theorem wd_60 : Cond.selects RX12 yX12_toldWrong yX12_toldWrong ∈ am_WS := am_ts 60 (by decide +kernel) rfl
set_option maxRecDepth 100000 in
theorem wc_1296 : am_co mX12_toldWrong ∈ am_WS := am_t6 33 rfl rfl
theorem cs_X12_245 : am_cvt RX12 245 mX12_toldWrong 3 := ⟨⟨by decide +kernel, by decide +kernel, by decide +kernel⟩, wd_1293, wd_1295, wd_60, wd_80, wc_1296⟩
theorem wd_1297 : Cond.methodLink RX12 248 yX12_unlike ∈ am_WS := am_t6 34 (by decide +kernel) rfl
theorem wd_1299 : Cond.instanceMethod yX12_unlike ∈ am_WS := am_t6 36 (by decide +kernel) rfl
theorem wd_61 : Cond.selects RX12 yX12_unlike yX12_unlike ∈ am_WS := am_ts 61 (by decide +kernel) rfl
set_option maxRecDepth 100000 in
theorem wc_1300 : am_co mX12_unlike ∈ am_WS := am_t6 37 rfl rfl
theorem cs_X12_248 : am_cvt RX12 248 mX12_unlike 2 := ⟨⟨by decide +kernel, by decide +kernel, by decide +kernel⟩, wd_1297, wd_1299, wd_61, wd_80, wc_1300⟩
theorem wd_1325 : Cond.methodLink RX12 255 yX12_orders ∈ am_WS := am_t6 62 (by decide +kernel) rfl
theorem wd_1327 : Cond.instanceMethod yX12_orders ∈ am_WS := am_t6 64 (by decide +kernel) rfl
theorem wd_62 : Cond.selects RX12 yX12_orders yX12_orders ∈ am_WS := am_ts 62 (by decide +kernel) rfl
set_option maxRecDepth 100000 in
theorem wc_1328 : am_co mX12_orders ∈ am_WS := am_t6 65 rfl rfl
theorem cs_X12_255 : am_cvt RX12 255 mX12_orders 1 := ⟨⟨by decide +kernel, by decide +kernel, by decide +kernel⟩, wd_1325, wd_1327, wd_62, wd_80, wc_1328⟩
theorem wd_1360 : Cond.methodLink RX12 263 yX12_viewer ∈ am_WS := am_t6 97 (by decide +kernel) rfl
theorem cs_X12_263 : am_cvt RX12 263 mX12_viewer 2 := ⟨⟨by decide +kernel, by decide +kernel, by decide +kernel⟩, wd_1360, wd_1181, wd_1182, wd_80, wc_1183⟩
theorem wd_77 : Cond.initialized RJ1 ∈ am_WS := am_t1 14 (by decide +kernel) rfl
theorem wd_319 : Cond.methodLink RJ0 495 yJ1_charAt_3b067 ∈ am_WS := am_t2 16 (by decide +kernel) rfl
theorem wd_320 : Cond.static yJ1_charAt_3b067 ∈ am_WS := am_t2 17 (by decide +kernel) rfl
set_option maxRecDepth 100000 in
theorem wc_321 : am_co mJ1_charAt_3b067 ∈ am_WS := am_t2 18 rfl rfl
theorem cs_J0_495 : am_cs RJ0 495 mJ1_charAt_3b067 2 := ⟨⟨by decide +kernel, by decide +kernel, by decide +kernel⟩, wd_319, wd_320, wd_77, wc_321⟩
theorem wd_79 : Cond.initialized RJ2 ∈ am_WS := am_t1 16 (by decide +kernel) rfl
theorem wd_330 : Cond.methodLink RJ0 498 yJ2_charAt_3b067 ∈ am_WS := am_t2 27 (by decide +kernel) rfl
theorem wd_331 : Cond.static yJ2_charAt_3b067 ∈ am_WS := am_t2 28 (by decide +kernel) rfl
set_option maxRecDepth 100000 in
theorem wc_332 : am_co mJ2_charAt_3b067 ∈ am_WS := am_t2 29 rfl rfl
theorem cs_J0_498 : am_cs RJ0 498 mJ2_charAt_3b067 2 := ⟨⟨by decide +kernel, by decide +kernel, by decide +kernel⟩, wd_330, wd_331, wd_79, wc_332⟩
theorem wd_78 : Cond.initialized RJ3 ∈ am_WS := am_t1 15 (by decide +kernel) rfl
theorem wd_327 : Cond.methodLink RJ0 1059 yJ3_checkIndex_8e157 ∈ am_WS := am_t2 24 (by decide +kernel) rfl
theorem wd_328 : Cond.static yJ3_checkIndex_8e157 ∈ am_WS := am_t2 25 (by decide +kernel) rfl
set_option maxRecDepth 100000 in
theorem wc_329 : am_co mJ3_checkIndex_8e157 ∈ am_WS := am_t2 26 rfl rfl
theorem cs_J0_1059 : am_cs RJ0 1059 mJ3_checkIndex_8e157 3 := ⟨⟨by decide +kernel, by decide +kernel, by decide +kernel⟩, wd_327, wd_328, wd_78, wc_329⟩
theorem wd_305 : Cond.methodLink RJ0 335 yJ0_coder_7d493 ∈ am_WS := am_t2 2 (by decide +kernel) rfl
theorem wd_306 : Cond.instanceMethod yJ0_coder_7d493 ∈ am_WS := am_t2 3 (by decide +kernel) rfl
theorem wd_307 : Cond.selects RJ0 yJ0_coder_7d493 yJ0_coder_7d493 ∈ am_WS := am_t2 4 (by decide +kernel) rfl
set_option maxRecDepth 100000 in
theorem wc_308 : am_co mJ0_coder_7d493 ∈ am_WS := am_t2 5 rfl rfl
theorem cs_J0_335 : am_cvt RJ0 335 mJ0_coder_7d493 0 := ⟨⟨by decide +kernel, by decide +kernel, by decide +kernel⟩, wd_305, wd_306, wd_307, wd_76, wc_308⟩
theorem wd_315 : Cond.methodLink RJ0 492 yJ0_isLatin1_aae02 ∈ am_WS := am_t2 12 (by decide +kernel) rfl
theorem wd_316 : Cond.instanceMethod yJ0_isLatin1_aae02 ∈ am_WS := am_t2 13 (by decide +kernel) rfl
theorem wd_317 : Cond.selects RJ0 yJ0_isLatin1_aae02 yJ0_isLatin1_aae02 ∈ am_WS := am_t2 14 (by decide +kernel) rfl
set_option maxRecDepth 100000 in
theorem wc_318 : am_co mJ0_isLatin1_aae02 ∈ am_WS := am_t2 15 rfl rfl
theorem cs_J0_492 : am_cvt RJ0 492 mJ0_isLatin1_aae02 0 := ⟨⟨by decide +kernel, by decide +kernel, by decide +kernel⟩, wd_315, wd_316, wd_317, wd_76, wc_318⟩
theorem wd_322 : Cond.methodLink RJ1 9 yJ0_checkIndex_df160 ∈ am_WS := am_t2 19 (by decide +kernel) rfl
theorem wd_323 : Cond.static yJ0_checkIndex_df160 ∈ am_WS := am_t2 20 (by decide +kernel) rfl
set_option maxRecDepth 100000 in
theorem wc_324 : am_co mJ0_checkIndex_df160 ∈ am_WS := am_t2 21 rfl rfl
theorem cs_J1_9 : am_cs RJ1 9 mJ0_checkIndex_df160 2 := ⟨⟨by decide +kernel, by decide +kernel, by decide +kernel⟩, wd_322, wd_323, wd_76, wc_324⟩
theorem wd_336 : Cond.methodLink RJ2 48 yJ2_length_9d52b ∈ am_WS := am_t2 33 (by decide +kernel) rfl
theorem wd_337 : Cond.static yJ2_length_9d52b ∈ am_WS := am_t2 34 (by decide +kernel) rfl
set_option maxRecDepth 100000 in
theorem wc_338 : am_co mJ2_length_9d52b ∈ am_WS := am_t2 35 rfl rfl
theorem cs_J2_48 : am_cs RJ2 48 mJ2_length_9d52b 1 := ⟨⟨by decide +kernel, by decide +kernel, by decide +kernel⟩, wd_336, wd_337, wd_79, wc_338⟩
theorem wd_333 : Cond.methodLink RJ2 67 yJ2_checkIndex_2214a ∈ am_WS := am_t2 30 (by decide +kernel) rfl
theorem wd_334 : Cond.static yJ2_checkIndex_2214a ∈ am_WS := am_t2 31 (by decide +kernel) rfl
set_option maxRecDepth 100000 in
theorem wc_335 : am_co mJ2_checkIndex_2214a ∈ am_WS := am_t2 32 rfl rfl
theorem cs_J2_67 : am_cs RJ2 67 mJ2_checkIndex_2214a 2 := ⟨⟨by decide +kernel, by decide +kernel, by decide +kernel⟩, wd_333, wd_334, wd_79, wc_335⟩
theorem wd_340 : Cond.methodLink RJ2 71 yJ2_getChar_3b067 ∈ am_WS := am_t2 37 (by decide +kernel) rfl
theorem wd_341 : Cond.static yJ2_getChar_3b067 ∈ am_WS := am_t2 38 (by decide +kernel) rfl
set_option maxRecDepth 100000 in
theorem wc_342 : am_co mJ2_getChar_3b067 ∈ am_WS := am_t2 39 rfl rfl
theorem cs_J2_71 : am_cs RJ2 71 mJ2_getChar_3b067 2 := ⟨⟨by decide +kernel, by decide +kernel, by decide +kernel⟩, wd_340, wd_341, wd_79, wc_342⟩
theorem wd_339 : Cond.methodLink RJ2 414 yJ0_checkIndex_df160 ∈ am_WS := am_t2 36 (by decide +kernel) rfl
theorem cs_J2_414 : am_cs RJ2 414 mJ0_checkIndex_df160 2 := ⟨⟨by decide +kernel, by decide +kernel, by decide +kernel⟩, wd_339, wd_323, wd_76, wc_324⟩
theorem wd_673 : Cond.methodLink RX10 91 yX9_likes ∈ am_WS := am_t3 130 (by decide +kernel) rfl
theorem wd_676 : Cond.sameMethod "FlatToLet$Viewer" "FlatToLet$Viewer" "likes" "(III)I" ∈ am_WS := am_t3 133 (by decide +kernel) rfl
theorem wd_675 : Cond.selects RX9 yX9_likes yX9_likes ∈ am_WS := am_t3 132 (by decide +kernel) rfl
theorem wd_674 : Cond.instanceMethod yX9_likes ∈ am_WS := am_t3 131 (by decide +kernel) rfl
set_option maxRecDepth 100000 in
theorem wc_692 : am_co mX9_likes ∈ am_WS := am_t3 149 rfl rfl
theorem cu_X10_91_X9 : am_cu RX10 91 RX9 "FlatToLet$Viewer" yX9_likes mX9_likes 3 := ⟨⟨by decide +kernel, by decide +kernel⟩, by decide +kernel, wd_673, wd_676, wd_675, wd_674, wd_66, wc_692, wd_674, _, _, _, wc_692⟩
theorem wd_680 : Cond.selects RX1 yX9_likes yX1_likes ∈ am_WS := am_t3 137 (by decide +kernel) rfl
theorem wd_681 : Cond.instanceMethod yX1_likes ∈ am_WS := am_t3 138 (by decide +kernel) rfl
set_option maxRecDepth 100000 in
theorem wc_682 : am_co mX1_likes ∈ am_WS := am_t3 139 rfl rfl
theorem cu_X10_91_X1 : am_cu RX10 91 RX1 "FlatToLet$Viewer" yX9_likes mX1_likes 3 := ⟨⟨by decide +kernel, by decide +kernel⟩, by decide +kernel, wd_673, wd_676, wd_680, wd_681, wd_67, wc_682, wd_674, _, _, _, wc_692⟩
theorem wd_691 : Cond.selects RX7 yX9_likes yX9_likes ∈ am_WS := am_t3 148 (by decide +kernel) rfl
theorem cu_X10_91_X7 : am_cu RX10 91 RX7 "FlatToLet$Viewer" yX9_likes mX9_likes 3 := ⟨⟨by decide +kernel, by decide +kernel⟩, by decide +kernel, wd_673, wd_676, wd_691, wd_674, wd_66, wc_692, wd_674, _, _, _, wc_692⟩
theorem wd_683 : Cond.selects RX2 yX9_likes yX2_likes ∈ am_WS := am_t3 140 (by decide +kernel) rfl
theorem wd_684 : Cond.instanceMethod yX2_likes ∈ am_WS := am_t3 141 (by decide +kernel) rfl
set_option maxRecDepth 100000 in
theorem wc_685 : am_co mX2_likes ∈ am_WS := am_t3 142 rfl rfl
theorem cu_X10_91_X2 : am_cu RX10 91 RX2 "FlatToLet$Viewer" yX9_likes mX2_likes 3 := ⟨⟨by decide +kernel, by decide +kernel⟩, by decide +kernel, wd_673, wd_676, wd_683, wd_684, wd_69, wc_685, wd_674, _, _, _, wc_692⟩
theorem wd_690 : Cond.selects RX3 yX9_likes yX9_likes ∈ am_WS := am_t3 147 (by decide +kernel) rfl
theorem cu_X10_91_X3 : am_cu RX10 91 RX3 "FlatToLet$Viewer" yX9_likes mX9_likes 3 := ⟨⟨by decide +kernel, by decide +kernel⟩, by decide +kernel, wd_673, wd_676, wd_690, wd_674, wd_66, wc_692, wd_674, _, _, _, wc_692⟩
theorem wd_677 : Cond.selects RX0 yX9_likes yX0_likes ∈ am_WS := am_t3 134 (by decide +kernel) rfl
theorem wd_678 : Cond.instanceMethod yX0_likes ∈ am_WS := am_t3 135 (by decide +kernel) rfl
set_option maxRecDepth 100000 in
theorem wc_679 : am_co mX0_likes ∈ am_WS := am_t3 136 rfl rfl
theorem cu_X10_91_X0 : am_cu RX10 91 RX0 "FlatToLet$Viewer" yX9_likes mX0_likes 3 := ⟨⟨by decide +kernel, by decide +kernel⟩, by decide +kernel, wd_673, wd_676, wd_677, wd_678, wd_71, wc_679, wd_674, _, _, _, wc_692⟩
theorem wd_693 : Cond.methodLink RX10 95 yX9_keeps ∈ am_WS := am_t3 150 (by decide +kernel) rfl
theorem wd_696 : Cond.sameMethod "FlatToLet$Viewer" "FlatToLet$Viewer" "keeps" "(IIIZZ)I" ∈ am_WS := am_t3 153 (by decide +kernel) rfl
theorem wd_695 : Cond.selects RX9 yX9_keeps yX9_keeps ∈ am_WS := am_t3 152 (by decide +kernel) rfl
theorem wd_694 : Cond.instanceMethod yX9_keeps ∈ am_WS := am_t3 151 (by decide +kernel) rfl
set_option maxRecDepth 100000 in
theorem wc_709 : am_co mX9_keeps ∈ am_WS := am_t3 166 rfl rfl
theorem cu_X10_95_X9 : am_cu RX10 95 RX9 "FlatToLet$Viewer" yX9_keeps mX9_keeps 5 := ⟨⟨by decide +kernel, by decide +kernel⟩, by decide +kernel, wd_693, wd_696, wd_695, wd_694, wd_66, wc_709, wd_694, _, _, _, wc_709⟩
theorem wd_698 : Cond.selects RX1 yX9_keeps yX1_keeps ∈ am_WS := am_t3 155 (by decide +kernel) rfl
theorem wd_699 : Cond.instanceMethod yX1_keeps ∈ am_WS := am_t3 156 (by decide +kernel) rfl
set_option maxRecDepth 100000 in
theorem wc_700 : am_co mX1_keeps ∈ am_WS := am_t3 157 rfl rfl
theorem cu_X10_95_X1 : am_cu RX10 95 RX1 "FlatToLet$Viewer" yX9_keeps mX1_keeps 5 := ⟨⟨by decide +kernel, by decide +kernel⟩, by decide +kernel, wd_693, wd_696, wd_698, wd_699, wd_67, wc_700, wd_694, _, _, _, wc_709⟩
theorem wd_708 : Cond.selects RX7 yX9_keeps yX7_keeps ∈ am_WS := am_t3 165 (by decide +kernel) rfl
theorem wd_706 : Cond.instanceMethod yX7_keeps ∈ am_WS := am_t3 163 (by decide +kernel) rfl
set_option maxRecDepth 100000 in
theorem wc_707 : am_co mX7_keeps ∈ am_WS := am_t3 164 rfl rfl
theorem cu_X10_95_X7 : am_cu RX10 95 RX7 "FlatToLet$Viewer" yX9_keeps mX7_keeps 5 := ⟨⟨by decide +kernel, by decide +kernel⟩, by decide +kernel, wd_693, wd_696, wd_708, wd_706, wd_68, wc_707, wd_694, _, _, _, wc_709⟩
theorem wd_701 : Cond.selects RX2 yX9_keeps yX1_keeps ∈ am_WS := am_t3 158 (by decide +kernel) rfl
theorem cu_X10_95_X2 : am_cu RX10 95 RX2 "FlatToLet$Viewer" yX9_keeps mX1_keeps 5 := ⟨⟨by decide +kernel, by decide +kernel⟩, by decide +kernel, wd_693, wd_696, wd_701, wd_699, wd_67, wc_700, wd_694, _, _, _, wc_709⟩
theorem wd_702 : Cond.selects RX3 yX9_keeps yX3_keeps ∈ am_WS := am_t3 159 (by decide +kernel) rfl
theorem wd_703 : Cond.instanceMethod yX3_keeps ∈ am_WS := am_t3 160 (by decide +kernel) rfl
set_option maxRecDepth 100000 in
theorem wc_704 : am_co mX3_keeps ∈ am_WS := am_t3 161 rfl rfl
theorem cu_X10_95_X3 : am_cu RX10 95 RX3 "FlatToLet$Viewer" yX9_keeps mX3_keeps 5 := ⟨⟨by decide +kernel, by decide +kernel⟩, by decide +kernel, wd_693, wd_696, wd_702, wd_703, wd_70, wc_704, wd_694, _, _, _, wc_709⟩
theorem wd_697 : Cond.selects RX0 yX9_keeps yX9_keeps ∈ am_WS := am_t3 154 (by decide +kernel) rfl
theorem cu_X10_95_X0 : am_cu RX10 95 RX0 "FlatToLet$Viewer" yX9_keeps mX9_keeps 5 := ⟨⟨by decide +kernel, by decide +kernel⟩, by decide +kernel, wd_693, wd_696, wd_697, wd_694, wd_66, wc_709, wd_694, _, _, _, wc_709⟩
theorem wd_715 : Cond.methodLink RX10 107 yX9_offers ∈ am_WS := am_t3 172 (by decide +kernel) rfl
theorem wd_718 : Cond.sameMethod "FlatToLet$Viewer" "FlatToLet$Viewer" "offers" "(III)I" ∈ am_WS := am_t3 175 (by decide +kernel) rfl
theorem wd_717 : Cond.selects RX9 yX9_offers yX9_offers ∈ am_WS := am_t3 174 (by decide +kernel) rfl
theorem wd_716 : Cond.instanceMethod yX9_offers ∈ am_WS := am_t3 173 (by decide +kernel) rfl
set_option maxRecDepth 100000 in
theorem wc_737 : am_co mX9_offers ∈ am_WS := am_t3 194 rfl rfl
theorem cu_X10_107_X9 : am_cu RX10 107 RX9 "FlatToLet$Viewer" yX9_offers mX9_offers 3 := ⟨⟨by decide +kernel, by decide +kernel⟩, by decide +kernel, wd_715, wd_718, wd_717, wd_716, wd_66, wc_737, wd_716, _, _, _, wc_737⟩
theorem wd_722 : Cond.selects RX1 yX9_offers yX9_offers ∈ am_WS := am_t3 179 (by decide +kernel) rfl
theorem cu_X10_107_X1 : am_cu RX10 107 RX1 "FlatToLet$Viewer" yX9_offers mX9_offers 3 := ⟨⟨by decide +kernel, by decide +kernel⟩, by decide +kernel, wd_715, wd_718, wd_722, wd_716, wd_66, wc_737, wd_716, _, _, _, wc_737⟩
theorem wd_736 : Cond.selects RX7 yX9_offers yX7_offers ∈ am_WS := am_t3 193 (by decide +kernel) rfl
theorem wd_733 : Cond.instanceMethod yX7_offers ∈ am_WS := am_t3 190 (by decide +kernel) rfl
