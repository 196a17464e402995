set_option maxRecDepth 100000 in
theorem pIn_f_0 : GoodIn tables_1_1 (pFs_0.map pWf) := goodIn_r _ [49, 50, 51, 64, 65, 66, 67, 68, 69, 70, 71, 72, 73, 74, 75, 76, 77, 78, 79, 80, 99, 100, 101, 102, 103, 104, 105, 106, 107, 108, 109, 123, 124, 125, 126, 127, 128, 129, 130, 131] (by decide +kernel) (by decide +kernel)
set_option maxRecDepth 100000 in
theorem pIn_f_1 : GoodIn tables_1_1 (pFs_1.map pWf) := goodIn_r _ [132, 133, 134, 135, 136, 137, 138, 139, 140, 141, 142, 143, 144, 145, 146, 147, 148, 149, 150, 151, 152, 153, 154, 155, 156, 157, 158, 159, 160, 161, 162, 163, 164, 165, 166, 167, 168, 169, 170, 171] (by decide +kernel) (by decide +kernel)
set_option maxRecDepth 100000 in
theorem pIn_f_2 : GoodIn tables_1_1 (pFs_2.map pWf) := goodIn_r _ [172, 173, 174, 175, 176, 177, 178, 179, 180, 181, 182, 183, 184, 185, 186, 187, 188, 189, 190, 191, 192, 193, 194] (by decide +kernel) (by decide +kernel)
set_option maxRecDepth 100000 in
theorem pIn_f_3 : GoodIn tables_1_2 (pFs_3.map pWf) := goodIn_r _ [56, 57, 58, 59, 60, 61, 62, 63, 64, 65, 81, 82, 83, 84, 85, 86, 87, 88, 89, 90, 91, 92, 93, 123, 124, 125, 126, 127, 128, 129, 130, 155, 156, 157, 158, 159, 160, 161, 162, 163] (by decide +kernel) (by decide +kernel)
set_option maxRecDepth 100000 in
theorem pIn_f_4 : GoodIn tables_1_2 (pFs_4.map pWf) := goodIn_r _ [164, 165, 166, 192, 193, 194, 195, 196, 212, 213, 214, 215, 216, 217, 218, 219, 220, 221, 222, 223, 224, 225, 226] (by decide +kernel) (by decide +kernel)
set_option maxRecDepth 100000 in
theorem pIn_f_5 : GoodIn tables_1_3 (pFs_5.map pWf) := goodIn_r _ [11, 12, 13, 14, 15, 16, 17, 18, 19, 20, 21, 22, 23, 24, 25, 26, 27, 28, 29, 30, 64, 65, 66, 67, 68, 69, 70, 71, 72, 73, 74, 75, 76, 77, 78, 79, 80, 81, 82] (by decide +kernel) (by decide +kernel)
set_option maxRecDepth 100000 in
theorem pIn_f_6 : GoodIn tables_1_6 (pFs_6.map pWf) := goodIn_r _ [102, 103, 104, 105, 106, 107, 108, 109, 110, 111, 112, 113, 114, 115, 116, 117, 118, 119, 120, 121, 122, 123, 124, 125, 126, 127, 128, 129, 130, 131, 132, 133, 134, 135, 136, 137, 138, 139, 140, 141] (by decide +kernel) (by decide +kernel)
set_option maxRecDepth 100000 in
theorem pIn_f_7 : GoodIn tables_1_6 (pFs_7.map pWf) := goodIn_r _ [142, 143, 144, 145, 146, 147, 148, 149, 150, 151, 152, 153, 154, 155, 156, 157, 158, 159, 160, 161, 162, 163, 164, 165, 166, 167, 168, 169, 170, 171, 172, 173, 174, 175, 176, 177] (by decide +kernel) (by decide +kernel)
theorem pIn_f : GoodIn lw_tbl (pFs.map pWf) := goodIn_ma (goodIn_up pt_1 pIn_f_0) (goodIn_ma (goodIn_up pt_1 pIn_f_1) (goodIn_ma (goodIn_up pt_1 pIn_f_2) (goodIn_ma (goodIn_up pt_2 pIn_f_3) (goodIn_ma (goodIn_up pt_2 pIn_f_4) (goodIn_ma (goodIn_up pt_3 pIn_f_5) (goodIn_ma (goodIn_up pt_6 pIn_f_6) (goodIn_up pt_6 pIn_f_7)))))))
set_option maxRecDepth 100000 in
theorem pIn_c_0 : GoodIn tables_1_1 (pCs_0.map pWc) := goodIn_r _ [30, 35, 38, 48, 63, 98, 119, 234, 237] (by decide +kernel) (by decide +kernel)
set_option maxRecDepth 100000 in
theorem pIn_c_1 : GoodIn tables_1_2 (pCs_1.map pWc) := goodIn_r _ [0, 3, 53, 119, 122, 151, 154, 191, 211] (by decide +kernel) (by decide +kernel)
set_option maxRecDepth 100000 in
theorem pIn_c_2 : GoodIn tables_1_3 (pCs_2.map pWc) := goodIn_r _ [10, 48, 52, 56, 60, 126, 134, 138, 139, 143, 146, 150, 153, 157, 161, 164, 169, 172, 176, 180, 184, 188, 192, 193, 197, 201, 205, 209, 213, 217, 221, 225, 229, 233, 237] (by decide +kernel) (by decide +kernel)
set_option maxRecDepth 100000 in
theorem pIn_c_3 : GoodIn tables_1_4 (pCs_3.map pWc) := goodIn_r _ [1, 5, 9, 13, 17, 22, 26, 30, 34, 38, 42, 46, 50, 53, 57, 69, 70, 71, 76, 84, 92, 96, 99, 103, 108, 111, 115, 118, 122, 130, 133, 140, 150, 154, 158, 162, 168, 169, 174, 178] (by decide +kernel) (by decide +kernel)
set_option maxRecDepth 100000 in
theorem pIn_c_4 : GoodIn tables_1_4 (pCs_4.map pWc) := goodIn_r _ [182, 201, 205, 209, 210, 211, 212, 225, 230, 234, 235] (by decide +kernel) (by decide +kernel)
set_option maxRecDepth 100000 in
theorem pIn_c_5 : GoodIn tables_1_5 (pCs_5.map pWc) := goodIn_r _ [0, 8, 15, 19, 23, 24, 30, 31, 35, 36, 40, 41, 42, 46, 50, 54, 58, 62, 65, 69, 74, 78, 79, 80, 81, 82, 85, 86, 91, 95, 111, 123, 128, 132, 140, 148, 156, 168, 172, 176] (by decide +kernel) (by decide +kernel)
set_option maxRecDepth 100000 in
theorem pIn_c_6 : GoodIn tables_1_5 (pCs_6.map pWc) := goodIn_r _ [180, 181, 182, 186, 194, 206, 210, 215, 235, 236] (by decide +kernel) (by decide +kernel)
set_option maxRecDepth 100000 in
theorem pIn_c_7 : GoodIn tables_1_6 (pCs_7.map pWc) := goodIn_r _ [75, 97, 98] (by decide +kernel) (by decide +kernel)
set_option maxRecDepth 100000 in
theorem pIn_c_8 : GoodIn tables_1_7 (pCs_8.map pWc) := goodIn_r _ [103, 107, 111, 115, 118, 125, 129, 133, 137, 141, 145, 149, 153, 157, 161, 164, 168, 172, 176, 180, 184, 188, 192, 196, 200, 204, 208, 212, 216, 220, 224, 239] (by decide +kernel) (by decide +kernel)
set_option maxRecDepth 100000 in
theorem pIn_c_9 : GoodIn tables_1_8 (pCs_9.map pWc) := goodIn_r _ [3, 7, 12, 20, 28, 31, 35, 40, 41, 45, 49, 53, 57, 60, 65, 66, 71, 75, 84, 88, 101, 105, 109, 129, 133, 137, 143, 155, 159, 163, 171, 183, 187, 191, 195, 207, 211, 215, 219, 223] (by decide +kernel) (by decide +kernel)
set_option maxRecDepth 100000 in
theorem pIn_c_10 : GoodIn tables_1_8 (pCs_10.map pWc) := goodIn_r _ [236] (by decide +kernel) (by decide +kernel)
set_option maxRecDepth 100000 in
theorem pIn_c_11 : GoodIn tables_1_9 (pCs_11.map pWc) := goodIn_r _ [0, 32, 36, 40, 44] (by decide +kernel) (by decide +kernel)
theorem pIn_c : GoodIn lw_tbl (pCs.map pWc) := goodIn_ma (goodIn_up pt_1 pIn_c_0) (goodIn_ma (goodIn_up pt_2 pIn_c_1) (goodIn_ma (goodIn_up pt_3 pIn_c_2) (goodIn_ma (goodIn_up pt_4 pIn_c_3) (goodIn_ma (goodIn_up pt_4 pIn_c_4) (goodIn_ma (goodIn_up pt_5 pIn_c_5) (goodIn_ma (goodIn_up pt_5 pIn_c_6) (goodIn_ma (goodIn_up pt_6 pIn_c_7) (goodIn_ma (goodIn_up pt_7 pIn_c_8) (goodIn_ma (goodIn_up pt_8 pIn_c_9) (goodIn_ma (goodIn_up pt_8 pIn_c_10) (goodIn_up pt_9 pIn_c_11)))))))))))
set_option maxRecDepth 100000 in
theorem pIn_j_0 : GoodIn tables_1_1 (pJs_0.map pWj) := goodIn_r _ [36, 46, 61, 96, 120, 235] (by decide +kernel) (by decide +kernel)
set_option maxRecDepth 100000 in
theorem pIn_j_1 : GoodIn tables_1_2 (pJs_1.map pWj) := goodIn_r _ [1, 120, 152, 189, 209] (by decide +kernel) (by decide +kernel)
set_option maxRecDepth 100000 in
theorem pIn_j_2 : GoodIn tables_1_3 (pJs_2.map pWj) := goodIn_r _ [8, 50, 53, 57, 61, 128, 135, 140, 147, 155, 159, 166, 174, 178, 182, 186, 190, 194, 199, 203, 207, 211, 214, 219, 222, 227, 231, 235, 239] (by decide +kernel) (by decide +kernel)
set_option maxRecDepth 100000 in
theorem pIn_j_3 : GoodIn tables_1_4 (pJs_3.map pWj) := goodIn_r _ [3, 7, 11, 15, 19, 24, 27, 32, 35, 40, 44, 48, 55, 59, 78, 86, 94, 100, 104, 112, 119, 141, 151, 155, 159, 176, 180, 203, 206, 214, 231] (by decide +kernel) (by decide +kernel)
set_option maxRecDepth 100000 in
theorem pIn_j_4 : GoodIn tables_1_5 (pJs_4.map pWj) := goodIn_r _ [2, 16, 21, 25, 33, 38, 43, 47, 51, 56, 60, 67, 75, 88, 93, 97, 113, 129, 134, 141, 149, 157, 169, 173, 177, 183, 187, 195, 207, 217, 237] (by decide +kernel) (by decide +kernel)
set_option maxRecDepth 100000 in
theorem pIn_j_5 : GoodIn tables_1_6 (pJs_5.map pWj) := goodIn_r _ [100] (by decide +kernel) (by decide +kernel)
set_option maxRecDepth 100000 in
theorem pIn_j_6 : GoodIn tables_1_7 (pJs_6.map pWj) := goodIn_r _ [105, 109, 113, 120, 127, 135, 139, 143, 147, 151, 155, 159, 166, 170, 174, 178, 182, 186, 190, 194, 198, 202, 206, 210, 214, 218, 222] (by decide +kernel) (by decide +kernel)
set_option maxRecDepth 100000 in
theorem pIn_j_7 : GoodIn tables_1_8 (pJs_7.map pWj) := goodIn_r _ [1, 5, 14, 22, 33, 37, 43, 47, 51, 55, 73, 77, 86, 90, 103, 107, 111, 131, 135, 139, 145, 157, 161, 165, 173, 185, 189, 193, 197, 209, 213, 217, 221, 238] (by decide +kernel) (by decide +kernel)
set_option maxRecDepth 100000 in
theorem pIn_j_8 : GoodIn tables_1_9 (pJs_8.map pWj) := goodIn_r _ [2, 34, 38, 42, 46] (by decide +kernel) (by decide +kernel)
theorem pIn_j : GoodIn lw_tbl (pJs.map pWj) := goodIn_ma (goodIn_up pt_1 pIn_j_0) (goodIn_ma (goodIn_up pt_2 pIn_j_1) (goodIn_ma (goodIn_up pt_3 pIn_j_2) (goodIn_ma (goodIn_up pt_4 pIn_j_3) (goodIn_ma (goodIn_up pt_5 pIn_j_4) (goodIn_ma (goodIn_up pt_6 pIn_j_5) (goodIn_ma (goodIn_up pt_7 pIn_j_6) (goodIn_ma (goodIn_up pt_8 pIn_j_7) (goodIn_up pt_9 pIn_j_8))))))))
set_option maxRecDepth 100000 in
theorem pIn_s_0 : GoodIn (k2_sels lw_privs) (pSs_0.map pWs) := goodIn_r _ [0, 1, 2, 3, 4, 5, 6, 7, 8, 9, 10, 11, 12, 13, 14, 15, 16, 17, 18, 19, 20, 21, 22, 23, 24, 25, 26, 27, 28, 29, 30, 31, 32, 33, 34, 35, 36, 37, 38, 39] (by decide +kernel) (by decide +kernel)
set_option maxRecDepth 100000 in
theorem pIn_s_1 : GoodIn (k2_sels lw_privs) (pSs_1.map pWs) := goodIn_r _ [40, 41, 42, 43, 44, 45, 46, 47, 48, 49, 50, 52, 53, 54, 55, 56, 57, 58, 59, 60, 61, 62, 63, 64, 65, 66, 67, 68, 69, 70, 71, 72, 73, 74, 75, 76, 77, 78, 79, 80] (by decide +kernel) (by decide +kernel)
set_option maxRecDepth 100000 in
theorem pIn_s_2 : GoodIn (k2_sels lw_privs) (pSs_2.map pWs) := goodIn_r _ [81, 82, 83, 84, 85, 86, 87, 88, 89, 90, 91, 92, 93, 94, 95, 96, 97, 98, 99, 100, 101, 102, 103, 104, 105, 106, 107, 108, 109, 110, 111, 112, 113, 114, 115, 116, 117, 118] (by decide +kernel) (by decide +kernel)
set_option maxRecDepth 100000 in
theorem pIn_s_3 : GoodIn tables_1_1 (pSs_3.map pWs) := goodIn_r _ [121] (by decide +kernel) (by decide +kernel)
set_option maxRecDepth 100000 in
theorem pIn_s_4 : GoodIn tables_1_3 (pSs_4.map pWs) := goodIn_r _ [54, 58, 62, 136, 141, 148, 195, 215, 223] (by decide +kernel) (by decide +kernel)
set_option maxRecDepth 100000 in
theorem pIn_s_5 : GoodIn tables_1_4 (pSs_5.map pWs) := goodIn_r _ [28, 36, 101, 105, 113, 120, 142, 152, 156, 160, 207, 232] (by decide +kernel) (by decide +kernel)
set_option maxRecDepth 100000 in
theorem pIn_s_6 : GoodIn tables_1_5 (pSs_6.map pWs) := goodIn_r _ [17, 26, 44, 48, 52, 76, 130, 142, 150, 158, 170, 174, 178, 184, 188, 196, 208, 238] (by decide +kernel) (by decide +kernel)
theorem pIn_s : GoodIn lw_tbl (pSs.map pWs) := goodIn_ma (goodIn_up pt_0 pIn_s_0) (goodIn_ma (goodIn_up pt_0 pIn_s_1) (goodIn_ma (goodIn_up pt_0 pIn_s_2) (goodIn_ma (goodIn_up pt_1 pIn_s_3) (goodIn_ma (goodIn_up pt_3 pIn_s_4) (goodIn_ma (goodIn_up pt_4 pIn_s_5) (goodIn_up pt_5 pIn_s_6))))))
set_option maxRecDepth 100000 in
theorem pIn_t_0 : GoodIn tables_1_2 (pTt_0.map pWt) := goodIn_r _ [54] (by decide +kernel) (by decide +kernel)
set_option maxRecDepth 100000 in
theorem pIn_t_1 : GoodIn tables_1_3 (pTt_1.map pWt) := goodIn_r _ [144, 151, 162, 170] (by decide +kernel) (by decide +kernel)
set_option maxRecDepth 100000 in
theorem pIn_t_2 : GoodIn tables_1_4 (pTt_2.map pWt) := goodIn_r _ [51, 97, 109, 116, 123, 131, 134] (by decide +kernel) (by decide +kernel)
set_option maxRecDepth 100000 in
theorem pIn_t_3 : GoodIn tables_1_5 (pTt_3.map pWt) := goodIn_r _ [9, 63, 83] (by decide +kernel) (by decide +kernel)
set_option maxRecDepth 100000 in
theorem pIn_t_4 : GoodIn tables_1_7 (pTt_4.map pWt) := goodIn_r _ [116, 130, 162, 225] (by decide +kernel) (by decide +kernel)
set_option maxRecDepth 100000 in
theorem pIn_t_5 : GoodIn tables_1_8 (pTt_5.map pWt) := goodIn_r _ [29, 58, 61] (by decide +kernel) (by decide +kernel)
theorem pIn_t : GoodIn lw_tbl (pTt.map pWt) := goodIn_ma (goodIn_up pt_2 pIn_t_0) (goodIn_ma (goodIn_up pt_3 pIn_t_1) (goodIn_ma (goodIn_up pt_4 pIn_t_2) (goodIn_ma (goodIn_up pt_5 pIn_t_3) (goodIn_ma (goodIn_up pt_7 pIn_t_4) (goodIn_up pt_8 pIn_t_5)))))
set_option maxRecDepth 100000 in
theorem pIn_k_0 : GoodIn tables_1_3 (pKs_0.map pWk) := goodIn_r _ [168] (by decide +kernel) (by decide +kernel)
set_option maxRecDepth 100000 in
theorem pIn_k_1 : GoodIn tables_1_4 (pKs_1.map pWk) := goodIn_r _ [21, 149] (by decide +kernel) (by decide +kernel)
set_option maxRecDepth 100000 in
theorem pIn_k_2 : GoodIn tables_1_5 (pKs_2.map pWk) := goodIn_r _ [28, 29, 90] (by decide +kernel) (by decide +kernel)
set_option maxRecDepth 100000 in
theorem pIn_k_3 : GoodIn tables_1_7 (pKs_3.map pWk) := goodIn_r _ [132] (by decide +kernel) (by decide +kernel)
set_option maxRecDepth 100000 in
theorem pIn_k_4 : GoodIn tables_1_8 (pKs_4.map pWk) := goodIn_r _ [83, 141, 142] (by decide +kernel) (by decide +kernel)
theorem pIn_k : GoodIn lw_tbl (pKs.map pWk) := goodIn_ma (goodIn_up pt_3 pIn_k_0) (goodIn_ma (goodIn_up pt_4 pIn_k_1) (goodIn_ma (goodIn_up pt_5 pIn_k_2) (goodIn_ma (goodIn_up pt_7 pIn_k_3) (goodIn_up pt_8 pIn_k_4))))
set_option maxRecDepth 100000 in
theorem pIn_l_0 : GoodIn tables_1_4 (pK2_0.map pWl) := goodIn_r _ [107, 125, 126, 127, 128, 129, 144, 167, 216, 217, 218, 219, 220] (by decide +kernel) (by decide +kernel)
set_option maxRecDepth 100000 in
theorem pIn_l_1 : GoodIn tables_1_8 (pK2_1.map pWl) := goodIn_r _ [39, 63, 64, 96] (by decide +kernel) (by decide +kernel)
theorem pIn_l : GoodIn lw_tbl (pK2.map pWl) := goodIn_ma (goodIn_up pt_4 pIn_l_0) (goodIn_up pt_8 pIn_l_1)
set_option maxRecDepth 100000 in
theorem pIn_n_0 : GoodIn tables_1_1 (pNs_0.map pWn) := goodIn_r _ [33, 39, 41, 43, 232, 238] (by decide +kernel) (by decide +kernel)
set_option maxRecDepth 100000 in
theorem pIn_n_1 : GoodIn tables_1_2 (pNs_1.map pWn) := goodIn_r _ [117, 149, 186, 206] (by decide +kernel) (by decide +kernel)
set_option maxRecDepth 100000 in
theorem pIn_n_2 : GoodIn tables_1_3 (pNs_2.map pWn) := goodIn_r _ [5] (by decide +kernel) (by decide +kernel)
theorem pIn_n : GoodIn lw_tbl (pNs.map pWn) := goodIn_ma (goodIn_up pt_1 pIn_n_0) (goodIn_ma (goodIn_up pt_2 pIn_n_1) (goodIn_up pt_3 pIn_n_2))
set_option maxRecDepth 100000 in
theorem pIn_a_0 : GoodIn tables_1_1 (pAn_0.map pWa) := goodIn_r _ [39, 41] (by decide +kernel) (by decide +kernel)
theorem pIn_a : GoodIn lw_tbl (pAn.map pWa) := goodIn_up pt_1 pIn_a_0
set_option maxRecDepth 100000 in
theorem pIn_i_0 : GoodIn tables_1_1 (pIz_0.map pWi) := goodIn_r _ [26, 34, 44, 59, 94, 233, 239] (by decide +kernel) (by decide +kernel)
set_option maxRecDepth 100000 in
theorem pIn_i_1 : GoodIn tables_1_2 (pIz_1.map pWi) := goodIn_r _ [118, 150, 187, 207] (by decide +kernel) (by decide +kernel)
set_option maxRecDepth 100000 in
theorem pIn_i_2 : GoodIn tables_1_3 (pIz_2.map pWi) := goodIn_r _ [6] (by decide +kernel) (by decide +kernel)
set_option maxRecDepth 100000 in
theorem pIn_i_3 : GoodIn tables_1_6 (pIz_3.map pWi) := goodIn_r _ [93] (by decide +kernel) (by decide +kernel)
theorem pIn_i : GoodIn lw_tbl (pIz.map pWi) := goodIn_ma (goodIn_up pt_1 pIn_i_0) (goodIn_ma (goodIn_up pt_2 pIn_i_1) (goodIn_ma (goodIn_up pt_3 pIn_i_2) (goodIn_up pt_6 pIn_i_3)))
set_option maxRecDepth 100000 in
theorem pIn_z_0 : GoodIn tables_1_1 (pZz_0.map pWz) := goodIn_r _ [1, 2, 3, 4, 5, 6, 7, 12, 13, 14, 15, 16, 17, 18] (by decide +kernel) (by decide +kernel)
theorem pIn_z : GoodIn lw_tbl (pZz.map pWz) := goodIn_up pt_1 pIn_z_0
set_option maxRecDepth 100000 in
theorem pIn_u_0 : GoodIn tables_1_1 (pUu_0.map pWu) := goodIn_r _ [52, 54, 81, 83, 85, 87, 89, 91, 110, 112, 114, 116, 195, 197, 199, 201, 203, 205, 207, 209, 211, 213, 215, 217, 219, 221, 223, 225, 227, 229] (by decide +kernel) (by decide +kernel)
set_option maxRecDepth 100000 in
theorem pIn_u_1 : GoodIn tables_1_2 (pUu_1.map pWu) := goodIn_r _ [66, 68, 70, 72, 74, 76, 78, 94, 96, 98, 100, 102, 104, 106, 108, 110, 112, 114, 131, 133, 135, 137, 139, 141, 143, 145, 167, 169, 171, 173, 175, 177, 179, 181, 183, 197, 199, 201, 203, 227] (by decide +kernel) (by decide +kernel)
set_option maxRecDepth 100000 in
theorem pIn_u_2 : GoodIn tables_1_2 (pUu_2.map pWu) := goodIn_r _ [229, 231, 233, 235, 237, 239] (by decide +kernel) (by decide +kernel)
set_option maxRecDepth 100000 in
theorem pIn_u_3 : GoodIn tables_1_3 (pUu_3.map pWu) := goodIn_r _ [1, 31, 33, 35, 37, 39, 41, 43, 45, 83, 85, 87, 89, 91, 93, 95, 97, 99, 101, 103, 105, 107, 109, 111, 113, 115, 117, 119] (by decide +kernel) (by decide +kernel)
set_option maxRecDepth 100000 in
theorem pIn_u_4 : GoodIn tables_1_6 (pUu_4.map pWu) := goodIn_r _ [178, 180, 182, 184, 186, 188, 190, 192, 194, 196, 198, 200, 202, 204, 206, 208, 210, 212, 214, 216, 218, 220, 222, 224, 226, 228, 230, 232, 234, 236, 238] (by decide +kernel) (by decide +kernel)
set_option maxRecDepth 100000 in
theorem pIn_u_5 : GoodIn tables_1_7 (pUu_5.map pWu) := goodIn_r _ [0, 2, 4, 6, 8, 10, 12, 14, 16, 18, 20, 22, 24, 26, 28, 30, 32, 34, 36, 38, 40, 42, 44, 46, 48, 50, 52, 54, 56, 58, 60, 62, 64, 66, 68, 70, 72, 74, 76, 78] (by decide +kernel) (by decide +kernel)
set_option maxRecDepth 100000 in
theorem pIn_u_6 : GoodIn tables_1_7 (pUu_6.map pWu) := goodIn_r _ [80, 82, 84, 86, 88] (by decide +kernel) (by decide +kernel)
theorem pIn_u : GoodIn lw_tbl (pUu.map pWu) := goodIn_ma (goodIn_up pt_1 pIn_u_0) (goodIn_ma (goodIn_up pt_2 pIn_u_1) (goodIn_ma (goodIn_up pt_2 pIn_u_2) (goodIn_ma (goodIn_up pt_3 pIn_u_3) (goodIn_ma (goodIn_up pt_6 pIn_u_4) (goodIn_ma (goodIn_up pt_7 pIn_u_5) (goodIn_up pt_7 pIn_u_6))))))
set_option maxRecDepth 100000 in
theorem pIn_x_0 : GoodIn tables_1_1 (pXx_0.map pWx) := goodIn_r _ [57, 58] (by decide +kernel) (by decide +kernel)
set_option maxRecDepth 100000 in
theorem pIn_x_1 : GoodIn tables_1_2 (pXx_1.map pWx) := goodIn_r _ [148] (by decide +kernel) (by decide +kernel)
set_option maxRecDepth 100000 in
theorem pIn_x_2 : GoodIn tables_1_3 (pXx_2.map pWx) := goodIn_r _ [4] (by decide +kernel) (by decide +kernel)
theorem pIn_x : GoodIn lw_tbl (pXx.map pWx) := goodIn_ma (goodIn_up pt_1 pIn_x_0) (goodIn_ma (goodIn_up pt_2 pIn_x_1) (goodIn_up pt_3 pIn_x_2))
