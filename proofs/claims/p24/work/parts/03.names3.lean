theorem dX7_ofCrane_75 : decode cX7_ofCrane 75 = .ok (.aload_n 3, 1) := by decide +kernel
theorem dX7_ofCrane_76 : decode cX7_ofCrane 76 = .ok (.getfield 72, 3) := by decide +kernel
theorem dX7_ofCrane_79 : decode cX7_ofCrane 79 = .ok (.ireturn, 1) := by decide +kernel
theorem dX7_ofCrane_80 : decode cX7_ofCrane 80 = .ok (.aload_n 3, 1) := by decide +kernel
theorem dX7_ofCrane_81 : decode cX7_ofCrane 81 = .ok (.getfield 79, 3) := by decide +kernel
theorem dX7_ofCrane_84 : decode cX7_ofCrane 84 = .ok (.ifCond .eq 7, 3) := by decide +kernel
theorem dX7_ofCrane_87 : decode cX7_ofCrane 87 = .ok (.iconst 1, 1) := by decide +kernel
theorem dX7_ofCrane_88 : decode cX7_ofCrane 88 = .ok (.goto 4, 3) := by decide +kernel
theorem dX7_ofCrane_91 : decode cX7_ofCrane 91 = .ok (.iconst 0, 1) := by decide +kernel
theorem dX7_ofCrane_92 : decode cX7_ofCrane 92 = .ok (.ireturn, 1) := by decide +kernel
theorem dX7_ofCrane_93 : decode cX7_ofCrane 93 = .ok (.aload_n 3, 1) := by decide +kernel
theorem dX7_ofCrane_94 : decode cX7_ofCrane 94 = .ok (.getfield 156, 3) := by decide +kernel
theorem dX7_ofCrane_97 : decode cX7_ofCrane 97 = .ok (.ireturn, 1) := by decide +kernel
theorem dX7_ofCrane_98 : decode cX7_ofCrane 98 = .ok (.aload_n 3, 1) := by decide +kernel
theorem dX7_ofCrane_99 : decode cX7_ofCrane 99 = .ok (.invokevirtual 241, 3) := by decide +kernel
theorem dX7_ofCrane_102 : decode cX7_ofCrane 102 = .ok (.ifCond .eq 7, 3) := by decide +kernel
theorem dX7_ofCrane_105 : decode cX7_ofCrane 105 = .ok (.iconst 1, 1) := by decide +kernel
theorem dX7_ofCrane_106 : decode cX7_ofCrane 106 = .ok (.goto 4, 3) := by decide +kernel
theorem dX7_ofCrane_109 : decode cX7_ofCrane 109 = .ok (.iconst 0, 1) := by decide +kernel
theorem dX7_ofCrane_110 : decode cX7_ofCrane 110 = .ok (.ireturn, 1) := by decide +kernel
theorem dX7_ofCrane_111 : decode cX7_ofCrane 111 = .ok (.aload_n 3, 1) := by decide +kernel
theorem dX7_ofCrane_112 : decode cX7_ofCrane 112 = .ok (.aload_n 3, 1) := by decide +kernel
theorem dX7_ofCrane_113 : decode cX7_ofCrane 113 = .ok (.getfield 72, 3) := by decide +kernel
theorem dX7_ofCrane_116 : decode cX7_ofCrane 116 = .ok (.aload_n 0, 1) := by decide +kernel
theorem dX7_ofCrane_117 : decode cX7_ofCrane 117 = .ok (.getfield 10, 3) := by decide +kernel
theorem dX7_ofCrane_120 : decode cX7_ofCrane 120 = .ok (.getfield 104, 3) := by decide +kernel
theorem dX7_ofCrane_123 : decode cX7_ofCrane 123 = .ok (.invokevirtual 107, 3) := by decide +kernel
theorem dX7_ofCrane_126 : decode cX7_ofCrane 126 = .ok (.ireturn, 1) := by decide +kernel
theorem dX7_ofCrane_127 : decode cX7_ofCrane 127 = .ok (.aload_n 3, 1) := by decide +kernel
theorem dX7_ofCrane_128 : decode cX7_ofCrane 128 = .ok (.getfield 207, 3) := by decide +kernel
theorem dX7_ofCrane_131 : decode cX7_ofCrane 131 = .ok (.aload_n 0, 1) := by decide +kernel
theorem dX7_ofCrane_132 : decode cX7_ofCrane 132 = .ok (.getfield 10, 3) := by decide +kernel
theorem dX7_ofCrane_135 : decode cX7_ofCrane 135 = .ok (.getfield 167, 3) := by decide +kernel
theorem dX7_ofCrane_138 : decode cX7_ofCrane 138 = .ok (.invokestatic 244, 3) := by decide +kernel
theorem dX7_ofCrane_141 : decode cX7_ofCrane 141 = .ok (.ireturn, 1) := by decide +kernel
theorem dX7_ofCrane_142 : decode cX7_ofCrane 142 = .ok (.aload_n 3, 1) := by decide +kernel
theorem dX7_ofCrane_143 : decode cX7_ofCrane 143 = .ok (.getfield 211, 3) := by decide +kernel
theorem dX7_ofCrane_146 : decode cX7_ofCrane 146 = .ok (.ireturn, 1) := by decide +kernel
theorem dX7_ofCrane_147 : decode cX7_ofCrane 147 = .ok (.new 50, 3) := by decide +kernel
theorem dX7_ofCrane_150 : decode cX7_ofCrane 150 = .ok (.dup, 1) := by decide +kernel
theorem dX7_ofCrane_151 : decode cX7_ofCrane 151 = .ok (.ldc 247, 2) := by decide +kernel
theorem dX7_ofCrane_153 : decode cX7_ofCrane 153 = .ok (.invokespecial 54, 3) := by decide +kernel
theorem dX7_ofCrane_156 : decode cX7_ofCrane 156 = .ok (.athrow, 1) := by decide +kernel
set_option maxRecDepth 20000 in
theorem ggX7_page_X7_isNoPage : GoodIn wsX7_page wsX7_isNoPage := goodIn_r _ [18, 5, 19, 20, 21, 17, 22, 23, 24, 25, 26, 27, 28, 29, 30, 31, 32, 33, 34, 35] (by decide +kernel) (by decide +kernel)
set_option maxRecDepth 20000 in
theorem gX7_page_X7_isNoPage : GoodIn wsX7_page (wsV RX7 227 RX7 yX7_isNoPage wsX7_isNoPage) := goodIn_app (goodIn_of _ (by decide +kernel)) ggX7_page_X7_isNoPage
theorem dX7_page_0 : decode cX7_page 0 = .ok (.aload_n 0, 1) := by decide +kernel
theorem dX7_page_1 : decode cX7_page 1 = .ok (.iload_n 1, 1) := by decide +kernel
theorem dX7_page_2 : decode cX7_page 2 = .ok (.invokevirtual 227, 3) := by decide +kernel
theorem dX7_page_5 : decode cX7_page 5 = .ok (.ifCond .eq 13, 3) := by decide +kernel
theorem dX7_page_8 : decode cX7_page 8 = .ok (.new 230, 3) := by decide +kernel
theorem dX7_page_11 : decode cX7_page 11 = .ok (.dup, 1) := by decide +kernel
theorem dX7_page_12 : decode cX7_page 12 = .ok (.ldc 232, 2) := by decide +kernel
theorem dX7_page_14 : decode cX7_page 14 = .ok (.invokespecial 234, 3) := by decide +kernel
theorem dX7_page_17 : decode cX7_page 17 = .ok (.athrow, 1) := by decide +kernel
theorem dX7_page_18 : decode cX7_page 18 = .ok (.aload_n 0, 1) := by decide +kernel
theorem dX7_page_19 : decode cX7_page 19 = .ok (.getfield 42, 3) := by decide +kernel
theorem dX7_page_22 : decode cX7_page 22 = .ok (.getfield 249, 3) := by decide +kernel
theorem dX7_page_25 : decode cX7_page 25 = .ok (.iload_n 1, 1) := by decide +kernel
theorem dX7_page_26 : decode cX7_page 26 = .ok (.aaload, 1) := by decide +kernel
theorem dX7_page_27 : decode cX7_page 27 = .ok (.astore_n 3, 1) := by decide +kernel
theorem dX7_page_28 : decode cX7_page 28 = .ok (.iload_n 2, 1) := by decide +kernel
theorem dX7_page_29 : decode cX7_page 29 = .ok (.tableswitch 78 0 6 #[43, 48, 53, 58, 63, 68, 73], 43) := by decide +kernel
theorem dX7_page_72 : decode cX7_page 72 = .ok (.aload_n 3, 1) := by decide +kernel
theorem dX7_page_73 : decode cX7_page 73 = .ok (.getfield 253, 3) := by decide +kernel
theorem dX7_page_76 : decode cX7_page 76 = .ok (.ireturn, 1) := by decide +kernel
theorem dX7_page_77 : decode cX7_page 77 = .ok (.aload_n 3, 1) := by decide +kernel
theorem dX7_page_78 : decode cX7_page 78 = .ok (.getfield 258, 3) := by decide +kernel
theorem dX7_page_81 : decode cX7_page 81 = .ok (.ireturn, 1) := by decide +kernel
theorem dX7_page_82 : decode cX7_page 82 = .ok (.aload_n 3, 1) := by decide +kernel
theorem dX7_page_83 : decode cX7_page 83 = .ok (.getfield 259, 3) := by decide +kernel
theorem dX7_page_86 : decode cX7_page 86 = .ok (.ireturn, 1) := by decide +kernel
theorem dX7_page_87 : decode cX7_page 87 = .ok (.aload_n 3, 1) := by decide +kernel
theorem dX7_page_88 : decode cX7_page 88 = .ok (.getfield 260, 3) := by decide +kernel
theorem dX7_page_91 : decode cX7_page 91 = .ok (.ireturn, 1) := by decide +kernel
theorem dX7_page_92 : decode cX7_page 92 = .ok (.aload_n 3, 1) := by decide +kernel
theorem dX7_page_93 : decode cX7_page 93 = .ok (.getfield 263, 3) := by decide +kernel
theorem dX7_page_96 : decode cX7_page 96 = .ok (.ireturn, 1) := by decide +kernel
theorem dX7_page_97 : decode cX7_page 97 = .ok (.aload_n 3, 1) := by decide +kernel
theorem dX7_page_98 : decode cX7_page 98 = .ok (.getfield 264, 3) := by decide +kernel
theorem dX7_page_101 : decode cX7_page 101 = .ok (.ireturn, 1) := by decide +kernel
theorem dX7_page_102 : decode cX7_page 102 = .ok (.aload_n 3, 1) := by decide +kernel
theorem dX7_page_103 : decode cX7_page 103 = .ok (.getfield 267, 3) := by decide +kernel
theorem dX7_page_106 : decode cX7_page 106 = .ok (.ireturn, 1) := by decide +kernel
theorem dX7_page_107 : decode cX7_page 107 = .ok (.new 50, 3) := by decide +kernel
theorem dX7_page_110 : decode cX7_page 110 = .ok (.dup, 1) := by decide +kernel
theorem dX7_page_111 : decode cX7_page 111 = .ok (.ldc_w 268, 3) := by decide +kernel
theorem dX7_page_114 : decode cX7_page 114 = .ok (.invokespecial 54, 3) := by decide +kernel
theorem dX7_page_117 : decode cX7_page 117 = .ok (.athrow, 1) := by decide +kernel
set_option maxRecDepth 20000 in
theorem ggX7_site_X5_hour : GoodIn wsX7_site wsX5_hour := goodIn_r _ [22, 23, 70, 71, 72, 73, 74, 75, 76] (by decide +kernel) (by decide +kernel)
set_option maxRecDepth 20000 in
theorem gX7_site_X5_hour : GoodIn wsX7_site (wsV RX7 270 RX5 yX5_hour wsX5_hour) := goodIn_app (goodIn_of _ (by decide +kernel)) ggX7_site_X5_hour
set_option maxRecDepth 20000 in
theorem ggX7_site_X7_shutZones : GoodIn wsX7_site wsX7_shutZones := goodIn_r _ [28, 3, 12, 29, 18, 19, 20, 21, 22, 23, 30, 31, 32, 33, 34, 35, 36, 61, 62, 63, 64, 65, 66, 67, 68, 69, 70, 71, 72, 73, 74, 75, 76, 81, 82, 83, 84, 85] (by decide +kernel) (by decide +kernel)
set_option maxRecDepth 20000 in
theorem gX7_site_X7_shutZones : GoodIn wsX7_site (wsV RX7 280 RX7 yX7_shutZones wsX7_shutZones) := goodIn_app (goodIn_of _ (by decide +kernel)) ggX7_site_X7_shutZones
set_option maxRecDepth 20000 in
theorem ggX7_site_X1_isWhole : GoodIn wsX7_site wsX1_isWhole := goodIn_r _ [41, 42, 43, 44, 45, 46, 40, 47, 48, 49, 50, 51, 52, 53, 54, 55, 56, 57, 58, 59, 77, 78, 79, 80, 86, 87, 88, 89, 90, 91, 92] (by decide +kernel) (by decide +kernel)
set_option maxRecDepth 20000 in
theorem gX7_site_X1_isWhole : GoodIn wsX7_site (wsV RX7 289 RX1 yX1_isWhole wsX1_isWhole) := goodIn_app (goodIn_of _ (by decide +kernel)) ggX7_site_X1_isWhole
set_option maxRecDepth 20000 in
theorem ggX7_site_X1_fault : GoodIn wsX7_site wsX1_fault := goodIn_r _ [47, 42, 48, 49, 50, 51, 52, 53, 54, 55, 56, 57, 58, 59, 77, 78, 79, 80, 86, 87, 88, 89, 90, 91, 92] (by decide +kernel) (by decide +kernel)
set_option maxRecDepth 20000 in
theorem gX7_site_X1_fault : GoodIn wsX7_site (wsV RX7 292 RX1 yX1_fault wsX1_fault) := goodIn_app (goodIn_of _ (by decide +kernel)) ggX7_site_X1_fault
theorem dX7_site_0 : decode cX7_site 0 = .ok (.iload_n 1, 1) := by decide +kernel
theorem dX7_site_1 : decode cX7_site 1 = .ok (.tableswitch 212 0 16 #[83, 91, 99, 107, 115, 123, 131, 139, 147, 152, 157, 162, 167, 175, 183, 199, 207], 83) := by decide +kernel
theorem dX7_site_84 : decode cX7_site 84 = .ok (.aload_n 0, 1) := by decide +kernel
theorem dX7_site_85 : decode cX7_site 85 = .ok (.getfield 10, 3) := by decide +kernel
theorem dX7_site_88 : decode cX7_site 88 = .ok (.getfield 172, 3) := by decide +kernel
theorem dX7_site_91 : decode cX7_site 91 = .ok (.ireturn, 1) := by decide +kernel
theorem dX7_site_92 : decode cX7_site 92 = .ok (.aload_n 0, 1) := by decide +kernel
theorem dX7_site_93 : decode cX7_site 93 = .ok (.getfield 10, 3) := by decide +kernel
theorem dX7_site_96 : decode cX7_site 96 = .ok (.invokevirtual 270, 3) := by decide +kernel
theorem dX7_site_99 : decode cX7_site 99 = .ok (.ireturn, 1) := by decide +kernel
theorem dX7_site_100 : decode cX7_site 100 = .ok (.aload_n 0, 1) := by decide +kernel
theorem dX7_site_101 : decode cX7_site 101 = .ok (.getfield 10, 3) := by decide +kernel
theorem dX7_site_104 : decode cX7_site 104 = .ok (.getfield 104, 3) := by decide +kernel
theorem dX7_site_107 : decode cX7_site 107 = .ok (.ireturn, 1) := by decide +kernel
theorem dX7_site_108 : decode cX7_site 108 = .ok (.aload_n 0, 1) := by decide +kernel
theorem dX7_site_109 : decode cX7_site 109 = .ok (.getfield 10, 3) := by decide +kernel
theorem dX7_site_112 : decode cX7_site 112 = .ok (.getfield 161, 3) := by decide +kernel
theorem dX7_site_115 : decode cX7_site 115 = .ok (.ireturn, 1) := by decide +kernel
theorem dX7_site_116 : decode cX7_site 116 = .ok (.aload_n 0, 1) := by decide +kernel
theorem dX7_site_117 : decode cX7_site 117 = .ok (.getfield 10, 3) := by decide +kernel
theorem dX7_site_120 : decode cX7_site 120 = .ok (.getfield 164, 3) := by decide +kernel
theorem dX7_site_123 : decode cX7_site 123 = .ok (.ireturn, 1) := by decide +kernel
theorem dX7_site_124 : decode cX7_site 124 = .ok (.aload_n 0, 1) := by decide +kernel
theorem dX7_site_125 : decode cX7_site 125 = .ok (.getfield 10, 3) := by decide +kernel
theorem dX7_site_128 : decode cX7_site 128 = .ok (.getfield 167, 3) := by decide +kernel
theorem dX7_site_131 : decode cX7_site 131 = .ok (.ireturn, 1) := by decide +kernel
theorem dX7_site_132 : decode cX7_site 132 = .ok (.aload_n 0, 1) := by decide +kernel
theorem dX7_site_133 : decode cX7_site 133 = .ok (.getfield 10, 3) := by decide +kernel
theorem dX7_site_136 : decode cX7_site 136 = .ok (.getfield 274, 3) := by decide +kernel
theorem dX7_site_139 : decode cX7_site 139 = .ok (.ireturn, 1) := by decide +kernel
theorem dX7_site_140 : decode cX7_site 140 = .ok (.aload_n 0, 1) := by decide +kernel
theorem dX7_site_141 : decode cX7_site 141 = .ok (.getfield 10, 3) := by decide +kernel
theorem dX7_site_144 : decode cX7_site 144 = .ok (.getfield 277, 3) := by decide +kernel
theorem dX7_site_147 : decode cX7_site 147 = .ok (.ireturn, 1) := by decide +kernel
theorem dX7_site_148 : decode cX7_site 148 = .ok (.aload_n 0, 1) := by decide +kernel
theorem dX7_site_149 : decode cX7_site 149 = .ok (.getfield 57, 3) := by decide +kernel
theorem dX7_site_152 : decode cX7_site 152 = .ok (.ireturn, 1) := by decide +kernel
theorem dX7_site_153 : decode cX7_site 153 = .ok (.aload_n 0, 1) := by decide +kernel
theorem dX7_site_154 : decode cX7_site 154 = .ok (.getfield 117, 3) := by decide +kernel
theorem dX7_site_157 : decode cX7_site 157 = .ok (.ireturn, 1) := by decide +kernel
theorem dX7_site_158 : decode cX7_site 158 = .ok (.aload_n 0, 1) := by decide +kernel
theorem dX7_site_159 : decode cX7_site 159 = .ok (.invokevirtual 280, 3) := by decide +kernel
theorem dX7_site_162 : decode cX7_site 162 = .ok (.ireturn, 1) := by decide +kernel
theorem dX7_site_163 : decode cX7_site 163 = .ok (.aload_n 0, 1) := by decide +kernel
theorem dX7_site_164 : decode cX7_site 164 = .ok (.getfield 139, 3) := by decide +kernel
theorem dX7_site_167 : decode cX7_site 167 = .ok (.ireturn, 1) := by decide +kernel
theorem dX7_site_168 : decode cX7_site 168 = .ok (.aload_n 0, 1) := by decide +kernel
theorem dX7_site_169 : decode cX7_site 169 = .ok (.getfield 42, 3) := by decide +kernel
theorem dX7_site_172 : decode cX7_site 172 = .ok (.getfield 283, 3) := by decide +kernel
theorem dX7_site_175 : decode cX7_site 175 = .ok (.ireturn, 1) := by decide +kernel
theorem dX7_site_176 : decode cX7_site 176 = .ok (.aload_n 0, 1) := by decide +kernel
theorem dX7_site_177 : decode cX7_site 177 = .ok (.getfield 42, 3) := by decide +kernel
theorem dX7_site_180 : decode cX7_site 180 = .ok (.getfield 286, 3) := by decide +kernel
theorem dX7_site_183 : decode cX7_site 183 = .ok (.ireturn, 1) := by decide +kernel
theorem dX7_site_184 : decode cX7_site 184 = .ok (.aload_n 0, 1) := by decide +kernel
theorem dX7_site_185 : decode cX7_site 185 = .ok (.getfield 42, 3) := by decide +kernel
theorem dX7_site_188 : decode cX7_site 188 = .ok (.invokevirtual 289, 3) := by decide +kernel
theorem dX7_site_191 : decode cX7_site 191 = .ok (.ifCond .eq 7, 3) := by decide +kernel
theorem dX7_site_194 : decode cX7_site 194 = .ok (.iconst 1, 1) := by decide +kernel
theorem dX7_site_195 : decode cX7_site 195 = .ok (.goto 4, 3) := by decide +kernel
theorem dX7_site_198 : decode cX7_site 198 = .ok (.iconst 0, 1) := by decide +kernel
theorem dX7_site_199 : decode cX7_site 199 = .ok (.ireturn, 1) := by decide +kernel
theorem dX7_site_200 : decode cX7_site 200 = .ok (.aload_n 0, 1) := by decide +kernel
theorem dX7_site_201 : decode cX7_site 201 = .ok (.getfield 42, 3) := by decide +kernel
theorem dX7_site_204 : decode cX7_site 204 = .ok (.invokevirtual 292, 3) := by decide +kernel
theorem dX7_site_207 : decode cX7_site 207 = .ok (.ireturn, 1) := by decide +kernel
theorem dX7_site_208 : decode cX7_site 208 = .ok (.aload_n 0, 1) := by decide +kernel
theorem dX7_site_209 : decode cX7_site 209 = .ok (.getfield 238, 3) := by decide +kernel
theorem dX7_site_212 : decode cX7_site 212 = .ok (.ireturn, 1) := by decide +kernel
theorem dX7_site_213 : decode cX7_site 213 = .ok (.new 50, 3) := by decide +kernel
theorem dX7_site_216 : decode cX7_site 216 = .ok (.dup, 1) := by decide +kernel
theorem dX7_site_217 : decode cX7_site 217 = .ok (.ldc_w 295, 3) := by decide +kernel
theorem dX7_site_220 : decode cX7_site 220 = .ok (.invokespecial 54, 3) := by decide +kernel
theorem dX7_site_223 : decode cX7_site 223 = .ok (.athrow, 1) := by decide +kernel
set_option maxRecDepth 20000 in
theorem ggX7_jibs_J4_init_da8c8 : GoodIn wsX7_jibs wsJ4_init_da8c8 := goodIn_r _ [10, 11, 12, 13, 14, 15, 16, 17, 18, 19, 20, 21, 22, 23, 24, 25, 26, 27, 28, 29, 222, 223, 224, 225] (by decide +kernel) (by decide +kernel)
set_option maxRecDepth 20000 in
theorem gX7_jibs_J4_init_da8c8 : GoodIn wsX7_jibs (wsJ4_init_da8c8) := ggX7_jibs_J4_init_da8c8
set_option maxRecDepth 20000 in
theorem ggX7_jibs_J4_append_cf468 : GoodIn wsX7_jibs wsJ4_append_cf468 := goodIn_r _ [33, 34, 35, 36, 37, 13, 38, 39, 20, 40, 41, 42, 43, 44, 21, 45, 46, 47, 48, 49, 50, 51, 52, 53, 54, 55, 56, 57, 58, 59, 60, 61, 62, 63, 64, 65, 66, 67, 68, 69, 70, 71, 72, 19, 73, 74, 75, 76, 77, 78, 79, 80, 81, 82, 83, 84, 18, 85, 86, 87, 88, 89, 90, 91, 92, 93, 22, 23, 24, 25, 26, 27, 28, 29, 94, 95, 96, 97, 98, 99, 100, 101, 102, 103, 104, 105, 106, 107, 108, 109, 110, 111, 112, 113, 114, 115, 116, 117, 118, 119, 120, 121, 122, 123, 124, 125, 126, 127, 128, 129, 130, 131, 132, 222, 223, 224, 225] (by decide +kernel) (by decide +kernel)
set_option maxRecDepth 20000 in
theorem gX7_jibs_J4_append_cf468 : GoodIn wsX7_jibs (wsV RX7 300 RJ4 yJ4_append_cf468 wsJ4_append_cf468) := goodIn_app (goodIn_of _ (by decide +kernel)) ggX7_jibs_J4_append_cf468
set_option maxRecDepth 20000 in
theorem ggX7_jibs_J4_append_bf812 : GoodIn wsX7_jibs wsJ4_append_bf812 := goodIn_r _ [136, 137, 138, 36, 139, 13, 140, 39, 20, 141, 142, 143, 144, 40, 41, 42, 43, 44, 21, 45, 46, 47, 48, 49, 50, 51, 52, 53, 54, 55, 56, 57, 58, 59, 60, 61, 62, 63, 64, 65, 66, 67, 68, 69, 70, 71, 72, 19, 73, 74, 75, 76, 77, 78, 79, 80, 81, 82, 83, 84, 18, 145, 146, 147, 148, 149, 150, 151, 24, 152, 118, 153, 154, 155, 103, 104, 105, 156, 157, 108, 158, 110, 159, 160, 113, 161, 162, 163, 164, 165, 166, 115, 116, 117, 119, 120, 222, 223, 224, 225] (by decide +kernel) (by decide +kernel)
set_option maxRecDepth 20000 in
theorem gX7_jibs_J4_append_bf812 : GoodIn wsX7_jibs (wsV RX7 304 RJ4 yJ4_append_bf812 wsJ4_append_bf812) := goodIn_app (goodIn_of _ (by decide +kernel)) ggX7_jibs_J4_append_bf812
set_option maxRecDepth 20000 in
theorem ggX7_jibs_J4_toString_0e30d : GoodIn wsX7_jibs wsJ4_toString_0e30d := goodIn_r _ [170, 171, 172, 108, 173, 174, 175, 176, 177, 178, 179, 16, 17, 180, 181, 182, 183, 184, 185, 186, 187, 13, 188, 20, 189, 190, 191, 192, 193, 3, 194, 195, 36, 196, 197, 39, 198, 81, 82, 83, 84, 18, 21, 199, 200, 65, 201, 67, 68, 69, 70, 71, 72, 202, 203, 204, 19, 73, 74, 57, 75, 76, 77, 78, 79, 205, 206, 207, 208, 2, 209, 210, 24, 211, 212, 213, 214, 100, 101, 102, 103, 104, 105, 106, 107, 109, 110, 111, 112, 113, 114, 215, 216, 217, 118, 119, 120, 26, 27, 28, 29, 218, 219, 220, 221, 247, 248, 249, 250, 222, 223, 224, 225] (by decide +kernel) (by decide +kernel)
set_option maxRecDepth 20000 in
theorem gX7_jibs_J4_toString_0e30d : GoodIn wsX7_jibs (wsV RX7 307 RJ4 yJ4_toString_0e30d wsJ4_toString_0e30d) := goodIn_app (goodIn_of _ (by decide +kernel)) ggX7_jibs_J4_toString_0e30d
theorem dX7_jibs_0 : decode cX7_jibs 0 = .ok (.new 297, 3) := by decide +kernel
theorem dX7_jibs_3 : decode cX7_jibs 3 = .ok (.dup, 1) := by decide +kernel
theorem dX7_jibs_4 : decode cX7_jibs 4 = .ok (.invokespecial 299, 3) := by decide +kernel
theorem dX7_jibs_7 : decode cX7_jibs 7 = .ok (.astore_n 1, 1) := by decide +kernel
theorem dX7_jibs_8 : decode cX7_jibs 8 = .ok (.iconst 0, 1) := by decide +kernel
theorem dX7_jibs_9 : decode cX7_jibs 9 = .ok (.istore_n 2, 1) := by decide +kernel
theorem dX7_jibs_10 : decode cX7_jibs 10 = .ok (.iload_n 2, 1) := by decide +kernel
theorem dX7_jibs_11 : decode cX7_jibs 11 = .ok (.aload_n 0, 1) := by decide +kernel
theorem dX7_jibs_12 : decode cX7_jibs 12 = .ok (.getfield 57, 3) := by decide +kernel
theorem dX7_jibs_15 : decode cX7_jibs 15 = .ok (.if_icmp .ge 58, 3) := by decide +kernel
theorem dX7_jibs_18 : decode cX7_jibs 18 = .ok (.iload_n 2, 1) := by decide +kernel
theorem dX7_jibs_19 : decode cX7_jibs 19 = .ok (.ifCond .le 10, 3) := by decide +kernel
theorem dX7_jibs_22 : decode cX7_jibs 22 = .ok (.aload_n 1, 1) := by decide +kernel
theorem dX7_jibs_23 : decode cX7_jibs 23 = .ok (.bipush 32, 2) := by decide +kernel
theorem dX7_jibs_25 : decode cX7_jibs 25 = .ok (.invokevirtual 300, 3) := by decide +kernel
theorem dX7_jibs_28 : decode cX7_jibs 28 = .ok (.pop, 1) := by decide +kernel
theorem dX7_jibs_29 : decode cX7_jibs 29 = .ok (.aload_n 1, 1) := by decide +kernel
theorem dX7_jibs_30 : decode cX7_jibs 30 = .ok (.aload_n 0, 1) := by decide +kernel
theorem dX7_jibs_31 : decode cX7_jibs 31 = .ok (.getfield 18, 3) := by decide +kernel
theorem dX7_jibs_34 : decode cX7_jibs 34 = .ok (.iload_n 2, 1) := by decide +kernel
theorem dX7_jibs_35 : decode cX7_jibs 35 = .ok (.aaload, 1) := by decide +kernel
theorem dX7_jibs_36 : decode cX7_jibs 36 = .ok (.getfield 79, 3) := by decide +kernel
theorem dX7_jibs_39 : decode cX7_jibs 39 = .ok (.ifCond .eq 8, 3) := by decide +kernel
theorem dX7_jibs_42 : decode cX7_jibs 42 = .ok (.bipush 76, 2) := by decide +kernel
theorem dX7_jibs_44 : decode cX7_jibs 44 = .ok (.goto 5, 3) := by decide +kernel
theorem dX7_jibs_47 : decode cX7_jibs 47 = .ok (.bipush 70, 2) := by decide +kernel
theorem dX7_jibs_49 : decode cX7_jibs 49 = .ok (.invokevirtual 300, 3) := by decide +kernel
theorem dX7_jibs_52 : decode cX7_jibs 52 = .ok (.pop, 1) := by decide +kernel
theorem dX7_jibs_53 : decode cX7_jibs 53 = .ok (.aload_n 1, 1) := by decide +kernel
theorem dX7_jibs_54 : decode cX7_jibs 54 = .ok (.aload_n 0, 1) := by decide +kernel
theorem dX7_jibs_55 : decode cX7_jibs 55 = .ok (.getfield 18, 3) := by decide +kernel
theorem dX7_jibs_58 : decode cX7_jibs 58 = .ok (.iload_n 2, 1) := by decide +kernel
theorem dX7_jibs_59 : decode cX7_jibs 59 = .ok (.aaload, 1) := by decide +kernel
theorem dX7_jibs_60 : decode cX7_jibs 60 = .ok (.getfield 207, 3) := by decide +kernel
theorem dX7_jibs_63 : decode cX7_jibs 63 = .ok (.invokevirtual 304, 3) := by decide +kernel
theorem dX7_jibs_66 : decode cX7_jibs 66 = .ok (.pop, 1) := by decide +kernel
theorem dX7_jibs_67 : decode cX7_jibs 67 = .ok (.iinc 2 1, 3) := by decide +kernel
theorem dX7_jibs_70 : decode cX7_jibs 70 = .ok (.goto (-60), 3) := by decide +kernel
theorem dX7_jibs_73 : decode cX7_jibs 73 = .ok (.aload_n 1, 1) := by decide +kernel
theorem dX7_jibs_74 : decode cX7_jibs 74 = .ok (.invokevirtual 307, 3) := by decide +kernel
theorem dX7_jibs_77 : decode cX7_jibs 77 = .ok (.areturn, 1) := by decide +kernel
set_option maxRecDepth 20000 in
theorem ggX7_capacity_X7_craneAt : GoodIn wsX7_capacity wsX7_craneAt := goodIn_ca (goodIn_r _ [10, 11, 12, 13, 14, 15, 16, 9, 17, 50, 51, 52, 53, 54, 55, 56, 57, 58] (by decide +kernel) (by decide +kernel)) (goodIn_sub (fun _ h => List.mem_cons_of_mem _ (List.mem_append_right _ h)) (by decide +kernel))
set_option maxRecDepth 20000 in
theorem gX7_capacity_X7_craneAt : GoodIn wsX7_capacity (wsV RX7 86 RX7 yX7_craneAt wsX7_craneAt) := goodIn_app (goodIn_of _ (by decide +kernel)) ggX7_capacity_X7_craneAt
set_option maxRecDepth 20000 in
theorem ggX7_capacity_X7_isOutside : GoodIn wsX7_capacity wsX7_isOutside := goodIn_r _ [17] (by decide +kernel) (by decide +kernel)
set_option maxRecDepth 20000 in
theorem gX7_capacity_X7_isOutside : GoodIn wsX7_capacity (va_wsS RX7 46 yX7_isOutside wsX7_isOutside) := goodIn_app (goodIn_of _ (by decide +kernel)) ggX7_capacity_X7_isOutside
set_option maxRecDepth 20000 in
theorem ggX7_capacity_X0_capacityAt : GoodIn wsX7_capacity wsX0_capacityAt := goodIn_r _ [22, 23, 24, 25, 26, 27, 28, 29, 30, 21, 31, 32, 33, 34, 35, 36, 9, 37, 38, 39, 40, 41, 42, 43, 44, 45, 46, 47, 48, 49] (by decide +kernel) (by decide +kernel)
set_option maxRecDepth 20000 in
theorem gX7_capacity_X0_capacityAt : GoodIn wsX7_capacity (wsV RX7 107 RX0 yX0_capacityAt wsX0_capacityAt) := goodIn_app (goodIn_of _ (by decide +kernel)) ggX7_capacity_X0_capacityAt
theorem dX7_capacity_0 : decode cX7_capacity 0 = .ok (.aload_n 0, 1) := by decide +kernel
theorem dX7_capacity_1 : decode cX7_capacity 1 = .ok (.iload_n 1, 1) := by decide +kernel
theorem dX7_capacity_2 : decode cX7_capacity 2 = .ok (.invokevirtual 86, 3) := by decide +kernel
theorem dX7_capacity_5 : decode cX7_capacity 5 = .ok (.astore_n 3, 1) := by decide +kernel
theorem dX7_capacity_6 : decode cX7_capacity 6 = .ok (.iload_n 2, 1) := by decide +kernel
theorem dX7_capacity_7 : decode cX7_capacity 7 = .ok (.bipush 10, 2) := by decide +kernel
theorem dX7_capacity_9 : decode cX7_capacity 9 = .ok (.aload_n 3, 1) := by decide +kernel
theorem dX7_capacity_10 : decode cX7_capacity 10 = .ok (.getfield 66, 3) := by decide +kernel
theorem dX7_capacity_13 : decode cX7_capacity 13 = .ok (.invokestatic 46, 3) := by decide +kernel
theorem dX7_capacity_16 : decode cX7_capacity 16 = .ok (.ifCond .eq 14, 3) := by decide +kernel
theorem dX7_capacity_19 : decode cX7_capacity 19 = .ok (.new 50, 3) := by decide +kernel
theorem dX7_capacity_22 : decode cX7_capacity 22 = .ok (.dup, 1) := by decide +kernel
theorem dX7_capacity_23 : decode cX7_capacity 23 = .ok (.ldc_w 311, 3) := by decide +kernel
theorem dX7_capacity_26 : decode cX7_capacity 26 = .ok (.invokespecial 54, 3) := by decide +kernel
theorem dX7_capacity_29 : decode cX7_capacity 29 = .ok (.athrow, 1) := by decide +kernel
theorem dX7_capacity_30 : decode cX7_capacity 30 = .ok (.aload_n 3, 1) := by decide +kernel
theorem dX7_capacity_31 : decode cX7_capacity 31 = .ok (.iload_n 2, 1) := by decide +kernel
theorem dX7_capacity_32 : decode cX7_capacity 32 = .ok (.aload_n 0, 1) := by decide +kernel
theorem dX7_capacity_33 : decode cX7_capacity 33 = .ok (.getfield 10, 3) := by decide +kernel
theorem dX7_capacity_36 : decode cX7_capacity 36 = .ok (.getfield 104, 3) := by decide +kernel
theorem dX7_capacity_39 : decode cX7_capacity 39 = .ok (.invokevirtual 107, 3) := by decide +kernel
theorem dX7_capacity_42 : decode cX7_capacity 42 = .ok (.ireturn, 1) := by decide +kernel
set_option maxRecDepth 20000 in
theorem ggX7_would_X7_craneAt : GoodIn wsX7_would wsX7_craneAt := goodIn_ca (goodIn_r _ [9, 10, 11, 12, 13, 14, 15, 8, 16, 137, 138, 139, 140, 141, 142, 143, 144, 145] (by decide +kernel) (by decide +kernel)) (goodIn_sub (fun _ h => List.mem_cons_of_mem _ (List.mem_append_right _ h)) (by decide +kernel))
set_option maxRecDepth 20000 in
theorem gX7_would_X7_craneAt : GoodIn wsX7_would (wsV RX7 86 RX7 yX7_craneAt wsX7_craneAt) := goodIn_app (goodIn_of _ (by decide +kernel)) ggX7_would_X7_craneAt
set_option maxRecDepth 20000 in
theorem ggX7_would_X7_isNoLift : GoodIn wsX7_would wsX7_isNoLift := goodIn_r _ [19, 20, 14, 15, 8, 16, 21, 22, 23, 146, 147, 148, 149, 150, 151, 152, 153, 154, 155, 156, 157] (by decide +kernel) (by decide +kernel)
set_option maxRecDepth 20000 in
theorem gX7_would_X7_isNoLift : GoodIn wsX7_would (va_wsS RX7 192 yX7_isNoLift wsX7_isNoLift) := goodIn_app (goodIn_of _ (by decide +kernel)) ggX7_would_X7_isNoLift
set_option maxRecDepth 20000 in
theorem ggX7_would_X7_tryLift : GoodIn wsX7_would wsX7_tryLift := goodIn_r _ [27, 28, 29, 30, 31, 32, 33, 34, 35, 36, 37, 38, 39, 40, 41, 42, 43, 44, 45, 46, 47, 48, 49, 50, 51, 52, 53, 54, 55, 56, 57, 58, 59, 60, 61, 62, 63, 64, 65, 66, 67, 68, 69, 70, 71, 72, 73, 8, 74, 75, 76, 77, 78, 79, 80, 81, 82, 83, 84, 85, 86, 87, 88, 89, 90, 91, 92, 93, 94, 95, 96, 97, 98, 99, 100, 101, 102, 103, 104, 105, 106, 107, 108, 109, 110, 111, 112, 113, 114, 115, 116, 117, 118, 119, 120, 12, 121, 13, 122, 123, 124, 125, 126, 127, 128, 129, 130, 131, 132, 133, 146, 147, 148, 149, 150, 151, 152, 153, 154, 155, 156, 157, 134, 135, 136, 137, 138, 139, 140, 141, 142, 143, 144, 145, 158, 159, 160, 161, 162, 163, 164, 165, 166, 167, 168, 169, 170, 171, 172, 173] (by decide +kernel) (by decide +kernel)
set_option maxRecDepth 20000 in
theorem gX7_would_X7_tryLift : GoodIn wsX7_would (wsV RX7 198 RX7 yX7_tryLift wsX7_tryLift) := goodIn_app (goodIn_of _ (by decide +kernel)) ggX7_would_X7_tryLift
theorem dX7_would_0 : decode cX7_would 0 = .ok (.aload_n 0, 1) := by decide +kernel
theorem dX7_would_1 : decode cX7_would 1 = .ok (.iload_n 1, 1) := by decide +kernel
theorem dX7_would_2 : decode cX7_would 2 = .ok (.invokevirtual 86, 3) := by decide +kernel
theorem dX7_would_5 : decode cX7_would 5 = .ok (.astore 7, 2) := by decide +kernel
theorem dX7_would_7 : decode cX7_would 7 = .ok (.aload 7, 2) := by decide +kernel
theorem dX7_would_9 : decode cX7_would 9 = .ok (.iload_n 2, 1) := by decide +kernel
theorem dX7_would_10 : decode cX7_would 10 = .ok (.iload_n 3, 1) := by decide +kernel
theorem dX7_would_11 : decode cX7_would 11 = .ok (.iload 4, 2) := by decide +kernel
theorem dX7_would_13 : decode cX7_would 13 = .ok (.iload 5, 2) := by decide +kernel
theorem dX7_would_15 : decode cX7_would 15 = .ok (.invokestatic 192, 3) := by decide +kernel
theorem dX7_would_18 : decode cX7_would 18 = .ok (.ifCond .eq 13, 3) := by decide +kernel
theorem dX7_would_21 : decode cX7_would 21 = .ok (.new 50, 3) := by decide +kernel
theorem dX7_would_24 : decode cX7_would 24 = .ok (.dup, 1) := by decide +kernel
theorem dX7_would_25 : decode cX7_would 25 = .ok (.ldc 196, 2) := by decide +kernel
theorem dX7_would_27 : decode cX7_would 27 = .ok (.invokespecial 54, 3) := by decide +kernel
theorem dX7_would_30 : decode cX7_would 30 = .ok (.athrow, 1) := by decide +kernel
theorem dX7_would_31 : decode cX7_would 31 = .ok (.aload_n 0, 1) := by decide +kernel
theorem dX7_would_32 : decode cX7_would 32 = .ok (.aload 7, 2) := by decide +kernel
theorem dX7_would_34 : decode cX7_would 34 = .ok (.iload_n 2, 1) := by decide +kernel
theorem dX7_would_35 : decode cX7_would 35 = .ok (.iload_n 3, 1) := by decide +kernel
theorem dX7_would_36 : decode cX7_would 36 = .ok (.iload 4, 2) := by decide +kernel
theorem dX7_would_38 : decode cX7_would 38 = .ok (.iload 5, 2) := by decide +kernel
theorem dX7_would_40 : decode cX7_would 40 = .ok (.invokevirtual 198, 3) := by decide +kernel
theorem dX7_would_43 : decode cX7_would 43 = .ok (.astore 8, 2) := by decide +kernel
theorem dX7_would_45 : decode cX7_would 45 = .ok (.iload 6, 2) := by decide +kernel
theorem dX7_would_47 : decode cX7_would 47 = .ok (.ifCond .eq 11, 3) := by decide +kernel
theorem dX7_would_50 : decode cX7_would 50 = .ok (.aload 8, 2) := by decide +kernel
theorem dX7_would_52 : decode cX7_would 52 = .ok (.getfield 313, 3) := by decide +kernel
theorem dX7_would_55 : decode cX7_would 55 = .ok (.goto 8, 3) := by decide +kernel
theorem dX7_would_58 : decode cX7_would 58 = .ok (.aload 8, 2) := by decide +kernel
theorem dX7_would_60 : decode cX7_would 60 = .ok (.getfield 202, 3) := by decide +kernel
theorem dX7_would_63 : decode cX7_would 63 = .ok (.ireturn, 1) := by decide +kernel
set_option maxRecDepth 20000 in
theorem ggX7_bearable_X7_craneAt : GoodIn wsX7_bearable wsX7_craneAt := goodIn_ca (goodIn_r _ [8, 9, 10, 11, 12, 13, 14, 7, 15, 48, 49, 50, 51, 52, 53, 54, 55, 56] (by decide +kernel) (by decide +kernel)) (goodIn_sub (fun _ h => List.mem_cons_of_mem _ (List.mem_append_right _ h)) (by decide +kernel))
set_option maxRecDepth 20000 in
theorem gX7_bearable_X7_craneAt : GoodIn wsX7_bearable (wsV RX7 86 RX7 yX7_craneAt wsX7_craneAt) := goodIn_app (goodIn_of _ (by decide +kernel)) ggX7_bearable_X7_craneAt
set_option maxRecDepth 20000 in
theorem ggX7_bearable_X7_isOutside : GoodIn wsX7_bearable wsX7_isOutside := goodIn_r _ [15] (by decide +kernel) (by decide +kernel)
set_option maxRecDepth 20000 in
theorem gX7_bearable_X7_isOutside : GoodIn wsX7_bearable (va_wsS RX7 46 yX7_isOutside wsX7_isOutside) := goodIn_app (goodIn_of _ (by decide +kernel)) ggX7_bearable_X7_isOutside
set_option maxRecDepth 20000 in
theorem ggX7_bearable_X0_capacityAt : GoodIn wsX7_bearable wsX0_capacityAt := goodIn_r _ [20, 21, 22, 23, 24, 25, 26, 27, 28, 19, 29, 30, 31, 32, 33, 34, 7, 35, 36, 37, 38, 39, 40, 41, 42, 43, 44, 45, 46, 47] (by decide +kernel) (by decide +kernel)
set_option maxRecDepth 20000 in
theorem gX7_bearable_X0_capacityAt : GoodIn wsX7_bearable (wsV RX7 107 RX0 yX0_capacityAt wsX0_capacityAt) := goodIn_app (goodIn_of _ (by decide +kernel)) ggX7_bearable_X0_capacityAt
theorem dX7_bearable_0 : decode cX7_bearable 0 = .ok (.aload_n 0, 1) := by decide +kernel
theorem dX7_bearable_1 : decode cX7_bearable 1 = .ok (.iload_n 1, 1) := by decide +kernel
theorem dX7_bearable_2 : decode cX7_bearable 2 = .ok (.invokevirtual 86, 3) := by decide +kernel
theorem dX7_bearable_5 : decode cX7_bearable 5 = .ok (.astore_n 3, 1) := by decide +kernel
theorem dX7_bearable_6 : decode cX7_bearable 6 = .ok (.iload_n 2, 1) := by decide +kernel
theorem dX7_bearable_7 : decode cX7_bearable 7 = .ok (.bipush 10, 2) := by decide +kernel
theorem dX7_bearable_9 : decode cX7_bearable 9 = .ok (.aload_n 3, 1) := by decide +kernel
theorem dX7_bearable_10 : decode cX7_bearable 10 = .ok (.getfield 66, 3) := by decide +kernel
theorem dX7_bearable_13 : decode cX7_bearable 13 = .ok (.invokestatic 46, 3) := by decide +kernel
theorem dX7_bearable_16 : decode cX7_bearable 16 = .ok (.ifCond .eq 14, 3) := by decide +kernel
theorem dX7_bearable_19 : decode cX7_bearable 19 = .ok (.new 50, 3) := by decide +kernel
theorem dX7_bearable_22 : decode cX7_bearable 22 = .ok (.dup, 1) := by decide +kernel
theorem dX7_bearable_23 : decode cX7_bearable 23 = .ok (.ldc_w 311, 3) := by decide +kernel
theorem dX7_bearable_26 : decode cX7_bearable 26 = .ok (.invokespecial 54, 3) := by decide +kernel
theorem dX7_bearable_29 : decode cX7_bearable 29 = .ok (.athrow, 1) := by decide +kernel
theorem dX7_bearable_30 : decode cX7_bearable 30 = .ok (.bipush 12, 2) := by decide +kernel
theorem dX7_bearable_32 : decode cX7_bearable 32 = .ok (.istore 4, 2) := by decide +kernel
theorem dX7_bearable_34 : decode cX7_bearable 34 = .ok (.iload 4, 2) := by decide +kernel
theorem dX7_bearable_36 : decode cX7_bearable 36 = .ok (.ifCond .lt 23, 3) := by decide +kernel
theorem dX7_bearable_39 : decode cX7_bearable 39 = .ok (.aload_n 3, 1) := by decide +kernel
theorem dX7_bearable_40 : decode cX7_bearable 40 = .ok (.iload_n 2, 1) := by decide +kernel
theorem dX7_bearable_41 : decode cX7_bearable 41 = .ok (.iload 4, 2) := by decide +kernel
theorem dX7_bearable_43 : decode cX7_bearable 43 = .ok (.invokevirtual 107, 3) := by decide +kernel
theorem dX7_bearable_46 : decode cX7_bearable 46 = .ok (.iconst 1, 1) := by decide +kernel
theorem dX7_bearable_47 : decode cX7_bearable 47 = .ok (.if_icmp .lt 6, 3) := by decide +kernel
theorem dX7_bearable_50 : decode cX7_bearable 50 = .ok (.iload 4, 2) := by decide +kernel
theorem dX7_bearable_52 : decode cX7_bearable 52 = .ok (.ireturn, 1) := by decide +kernel
theorem dX7_bearable_53 : decode cX7_bearable 53 = .ok (.iinc 4 (-1), 3) := by decide +kernel
theorem dX7_bearable_56 : decode cX7_bearable 56 = .ok (.goto (-22), 3) := by decide +kernel
theorem dX7_bearable_59 : decode cX7_bearable 59 = .ok (.iconst (-1), 1) := by decide +kernel
theorem dX7_bearable_60 : decode cX7_bearable 60 = .ok (.ireturn, 1) := by decide +kernel
set_option maxRecDepth 20000 in
theorem ggX7_isSound_X7_isSoundCrane : GoodIn wsX7_isSound wsX7_isSoundCrane := goodIn_r _ [8, 9, 10, 11, 12, 13, 14, 15, 16, 17, 18, 19, 20, 21, 7, 22, 64, 65, 66, 67, 68, 69, 70, 71, 72, 73, 74, 75, 55, 56, 57, 58, 59, 60, 61, 62, 63, 76, 77, 78, 79, 80, 81, 82] (by decide +kernel) (by decide +kernel)
set_option maxRecDepth 20000 in
theorem gX7_isSound_X7_isSoundCrane : GoodIn wsX7_isSound (wsV RX7 316 RX7 yX7_isSoundCrane wsX7_isSoundCrane) := goodIn_app (goodIn_of _ (by decide +kernel)) ggX7_isSound_X7_isSoundCrane
set_option maxRecDepth 20000 in
theorem ggX7_isSound_X1_isWhole : GoodIn wsX7_isSound wsX1_isWhole := goodIn_r _ [27, 28, 29, 30, 31, 32, 26, 33, 34, 35, 36, 37, 38, 39, 40, 41, 42, 43, 44, 45, 83, 84, 85, 86, 87, 88, 89, 90, 91, 92, 93] (by decide +kernel) (by decide +kernel)
set_option maxRecDepth 20000 in
theorem gX7_isSound_X1_isWhole : GoodIn wsX7_isSound (wsV RX7 289 RX1 yX1_isWhole wsX1_isWhole) := goodIn_app (goodIn_of _ (by decide +kernel)) ggX7_isSound_X1_isWhole
set_option maxRecDepth 20000 in
theorem ggX7_isSound_X1_holdsNoOverload : GoodIn wsX7_isSound wsX1_holdsNoOverload := goodIn_r _ [49, 28, 34, 50, 51, 52, 39, 53, 41, 45, 44, 54, 83, 84, 85, 86, 87, 88, 89, 90, 91, 92, 93] (by decide +kernel) (by decide +kernel)
set_option maxRecDepth 20000 in
theorem gX7_isSound_X1_holdsNoOverload : GoodIn wsX7_isSound (wsV RX7 320 RX1 yX1_holdsNoOverload wsX1_holdsNoOverload) := goodIn_app (goodIn_of _ (by decide +kernel)) ggX7_isSound_X1_holdsNoOverload
theorem dX7_isSound_0 : decode cX7_isSound 0 = .ok (.iconst 0, 1) := by decide +kernel
theorem dX7_isSound_1 : decode cX7_isSound 1 = .ok (.istore_n 1, 1) := by decide +kernel
theorem dX7_isSound_2 : decode cX7_isSound 2 = .ok (.iload_n 1, 1) := by decide +kernel
theorem dX7_isSound_3 : decode cX7_isSound 3 = .ok (.aload_n 0, 1) := by decide +kernel
theorem dX7_isSound_4 : decode cX7_isSound 4 = .ok (.getfield 57, 3) := by decide +kernel
theorem dX7_isSound_7 : decode cX7_isSound 7 = .ok (.if_icmp .ge 24, 3) := by decide +kernel
theorem dX7_isSound_10 : decode cX7_isSound 10 = .ok (.aload_n 0, 1) := by decide +kernel
theorem dX7_isSound_11 : decode cX7_isSound 11 = .ok (.aload_n 0, 1) := by decide +kernel
theorem dX7_isSound_12 : decode cX7_isSound 12 = .ok (.getfield 18, 3) := by decide +kernel
theorem dX7_isSound_15 : decode cX7_isSound 15 = .ok (.iload_n 1, 1) := by decide +kernel
theorem dX7_isSound_16 : decode cX7_isSound 16 = .ok (.aaload, 1) := by decide +kernel
theorem dX7_isSound_17 : decode cX7_isSound 17 = .ok (.invokevirtual 316, 3) := by decide +kernel
theorem dX7_isSound_20 : decode cX7_isSound 20 = .ok (.ifCond .ne 5, 3) := by decide +kernel
theorem dX7_isSound_23 : decode cX7_isSound 23 = .ok (.iconst 0, 1) := by decide +kernel
theorem dX7_isSound_24 : decode cX7_isSound 24 = .ok (.ireturn, 1) := by decide +kernel
theorem dX7_isSound_25 : decode cX7_isSound 25 = .ok (.iinc 1 1, 3) := by decide +kernel
theorem dX7_isSound_28 : decode cX7_isSound 28 = .ok (.goto (-26), 3) := by decide +kernel
theorem dX7_isSound_31 : decode cX7_isSound 31 = .ok (.aload_n 0, 1) := by decide +kernel
theorem dX7_isSound_32 : decode cX7_isSound 32 = .ok (.getfield 42, 3) := by decide +kernel
theorem dX7_isSound_35 : decode cX7_isSound 35 = .ok (.invokevirtual 289, 3) := by decide +kernel
theorem dX7_isSound_38 : decode cX7_isSound 38 = .ok (.ifCond .eq 13, 3) := by decide +kernel
theorem dX7_isSound_41 : decode cX7_isSound 41 = .ok (.aload_n 0, 1) := by decide +kernel
theorem dX7_isSound_42 : decode cX7_isSound 42 = .ok (.getfield 42, 3) := by decide +kernel
theorem dX7_isSound_45 : decode cX7_isSound 45 = .ok (.invokevirtual 320, 3) := by decide +kernel
theorem dX7_isSound_48 : decode cX7_isSound 48 = .ok (.ifCond .eq 7, 3) := by decide +kernel
theorem dX7_isSound_51 : decode cX7_isSound 51 = .ok (.iconst 1, 1) := by decide +kernel
theorem dX7_isSound_52 : decode cX7_isSound 52 = .ok (.goto 4, 3) := by decide +kernel
theorem dX7_isSound_55 : decode cX7_isSound 55 = .ok (.iconst 0, 1) := by decide +kernel
theorem dX7_isSound_56 : decode cX7_isSound 56 = .ok (.ireturn, 1) := by decide +kernel
set_option maxRecDepth 20000 in
theorem ggX7_digest_X7_site : GoodIn wsX7_digest wsX7_site := goodIn_ca (goodIn_r _ [12, 13, 14, 15, 16, 17, 18, 19, 20, 21, 22, 3, 23, 24, 6, 7, 25, 26, 27, 28, 29, 30, 31, 32, 33, 34, 35, 11, 36, 37, 38, 39, 40, 41, 42, 43, 44, 45, 46, 47, 48, 49, 50, 51, 52, 53, 54, 55, 56, 57, 58, 59, 60, 61, 62, 63, 64, 65, 66, 67, 68, 396, 397, 398, 399, 400, 401, 402, 403, 404, 421, 422, 423, 424, 425, 426, 427, 417, 418, 419, 420, 428, 429, 430, 431, 432, 433, 434, 435, 436, 437, 438, 439] (by decide +kernel) (by decide +kernel)) (goodIn_sub (fun _ h => List.mem_cons_of_mem _ (List.mem_append_left _ (List.mem_append_right _ h))) (by decide +kernel))
set_option maxRecDepth 20000 in
theorem gX7_digest_X7_site : GoodIn wsX7_digest (wsV RX7 327 RX7 yX7_site wsX7_site) := goodIn_app (goodIn_of _ (by decide +kernel)) ggX7_digest_X7_site
set_option maxRecDepth 20000 in
theorem ggX7_digest_X7_ofCrane : GoodIn wsX7_digest wsX7_ofCrane := goodIn_ca (goodIn_ca (goodIn_r _ [72, 13, 14, 5, 73, 74, 75, 76, 77, 15, 17, 20, 78, 79, 80, 81, 11, 82, 83, 84, 3, 4, 85, 86, 87, 88, 89, 90, 91, 92, 93, 94, 95, 96, 97, 98, 99, 100, 101, 102, 103, 104, 105, 106, 107, 108, 109, 110, 111, 112, 113, 114, 115, 116, 117, 118, 119, 120, 121, 122, 123, 124, 125, 405, 406, 407, 408, 409, 410, 411, 412, 413, 414, 415, 416, 396, 397, 398, 399, 400, 401, 402, 403, 404, 421, 422, 423, 424, 425, 426, 427] (by decide +kernel) (by decide +kernel)) (goodIn_sub (fun _ h => List.mem_cons_of_mem _ (List.mem_append_left _ (List.mem_append_right _ h))) (by decide +kernel))) (goodIn_sub (fun _ h => List.mem_cons_of_mem _ (List.mem_append_right _ h)) (by decide +kernel))
set_option maxRecDepth 20000 in
theorem gX7_digest_X7_ofCrane : GoodIn wsX7_digest (wsV RX7 330 RX7 yX7_ofCrane wsX7_ofCrane) := goodIn_app (goodIn_of _ (by decide +kernel)) ggX7_digest_X7_ofCrane
set_option maxRecDepth 20000 in
theorem ggX7_digest_X7_capacity : GoodIn wsX7_digest wsX7_capacity := goodIn_ca (goodIn_ca (goodIn_r _ [129, 13, 14, 5, 15, 17, 79, 80, 81, 11, 82, 83, 84, 3, 4, 85, 86, 87, 94, 95, 96, 91, 97, 98, 99, 100, 101, 102, 103, 104, 105, 106, 107, 108, 109, 110, 111, 112, 405, 406, 407, 408, 409, 410, 411, 412, 413, 414, 415, 416, 396, 397, 398, 399, 400, 401, 402, 403, 404, 421, 422, 423, 424, 425, 426, 427] (by decide +kernel) (by decide +kernel)) (goodIn_sub (fun _ h => List.mem_cons_of_mem _ (List.mem_append_left _ (List.mem_append_right _ h))) (by decide +kernel))) (goodIn_sub (fun _ h => List.mem_cons_of_mem _ (List.mem_append_right _ h)) (by decide +kernel))
set_option maxRecDepth 20000 in
theorem gX7_digest_X7_capacity : GoodIn wsX7_digest (wsV RX7 333 RX7 yX7_capacity wsX7_capacity) := goodIn_app (goodIn_of _ (by decide +kernel)) ggX7_digest_X7_capacity
set_option maxRecDepth 20000 in
theorem ggX7_digest_X7_bearable : GoodIn wsX7_digest wsX7_bearable := goodIn_ca (goodIn_ca (goodIn_r _ [133, 13, 14, 5, 79, 80, 81, 11, 82, 83, 84, 3, 4, 85, 86, 87, 94, 95, 96, 91, 97, 98, 99, 100, 101, 102, 103, 104, 105, 106, 107, 108, 109, 110, 111, 112, 405, 406, 407, 408, 409, 410, 411, 412, 413, 414, 415, 416, 396, 397, 398, 399, 400, 401, 402, 403, 404] (by decide +kernel) (by decide +kernel)) (goodIn_sub (fun _ h => List.mem_cons_of_mem _ (List.mem_append_left _ (List.mem_append_right _ h))) (by decide +kernel))) (goodIn_sub (fun _ h => List.mem_cons_of_mem _ (List.mem_append_right _ h)) (by decide +kernel))
set_option maxRecDepth 20000 in
theorem gX7_digest_X7_bearable : GoodIn wsX7_digest (wsV RX7 336 RX7 yX7_bearable wsX7_bearable) := goodIn_app (goodIn_of _ (by decide +kernel)) ggX7_digest_X7_bearable
set_option maxRecDepth 20000 in
theorem ggX7_digest_X7_page : GoodIn wsX7_digest wsX7_page := goodIn_ca (goodIn_ca (goodIn_r _ [137, 83, 84, 13, 14, 6, 138, 139, 140, 141, 142, 143, 144, 145, 146, 147, 148, 11, 149, 7, 85, 86, 87, 396, 397, 398, 399, 400, 401, 402, 403, 404, 417, 418, 419, 420, 433, 434, 435, 436, 437, 438, 439] (by decide +kernel) (by decide +kernel)) (goodIn_sub (fun _ h => List.mem_cons_of_mem _ (List.mem_append_right _ h)) (by decide +kernel))) (goodIn_sub (fun _ h => List.mem_cons_of_mem _ (List.mem_append_left _ (List.mem_append_right _ h))) (by decide +kernel))
set_option maxRecDepth 20000 in
theorem gX7_digest_X7_page : GoodIn wsX7_digest (wsV RX7 339 RX7 yX7_page wsX7_page) := goodIn_app (goodIn_of _ (by decide +kernel)) ggX7_digest_X7_page
set_option maxRecDepth 20000 in
theorem ggX7_digest_X7_jibs : GoodIn wsX7_digest wsX7_jibs := goodIn_r _ [153, 154, 155, 156, 3, 4, 76, 74, 157, 158, 159, 160, 161, 162, 163, 164, 165, 166, 167, 168, 169, 170, 171, 172, 173, 174, 175, 176, 177, 178, 179, 180, 181, 182, 183, 184, 185, 186, 187, 188, 189, 190, 191, 192, 193, 194, 195, 196, 197, 198, 199, 200, 201, 202, 203, 204, 100, 101, 102, 205, 206, 207, 208, 209, 210, 211, 212, 213, 214, 215, 216, 217, 218, 219, 117, 118, 220, 221, 222, 223, 224, 225, 226, 227, 228, 229, 230, 231, 232, 233, 234, 235, 236, 237, 238, 239, 240, 241, 242, 243, 244, 245, 246, 247, 248, 249, 250, 251, 252, 253, 254, 255, 256, 257, 258, 259, 260, 261, 262, 263, 264, 265, 266, 267, 268, 269, 270, 271, 272, 273, 274, 275, 276, 277, 278, 279, 280, 281, 282, 283, 284, 285, 286, 287, 288, 289, 290, 291, 292, 293, 294, 295, 296, 297, 298, 299, 300, 301, 302, 303, 304, 305, 306, 307, 308, 309, 310, 311, 312, 313, 314, 315, 316, 317, 318, 319, 320, 321, 322, 323, 324, 325, 326, 327, 328, 329, 330, 331, 332, 333, 334, 335, 336, 337, 338, 339, 340, 341, 342, 343, 344, 345, 346, 347, 348, 349, 350, 351, 352, 353, 354, 355, 356, 357, 358, 359, 360, 361, 362, 363, 364, 365, 440, 441, 442, 443, 396, 397, 398, 399, 400, 401, 402, 403, 404, 405, 406, 407, 408, 409, 410, 411, 412, 413, 414, 415, 416, 444, 445, 446, 447] (by decide +kernel) (by decide +kernel)
set_option maxRecDepth 20000 in
theorem gX7_digest_X7_jibs : GoodIn wsX7_digest (wsV RX7 342 RX7 yX7_jibs wsX7_jibs) := goodIn_app (goodIn_of _ (by decide +kernel)) ggX7_digest_X7_jibs
set_option maxRecDepth 20000 in
theorem ggX7_digest_J0_length_8abf5 : GoodIn wsX7_digest wsJ0_length_8abf5 := goodIn_r _ [369, 325, 370, 371, 372, 252, 373, 326, 324, 444, 445, 446, 447] (by decide +kernel) (by decide +kernel)
set_option maxRecDepth 20000 in
theorem gX7_digest_J0_length_8abf5 : GoodIn wsX7_digest (wsV RX7 345 RJ0 yJ0_length_8abf5 wsJ0_length_8abf5) := goodIn_app (goodIn_of _ (by decide +kernel)) ggX7_digest_J0_length_8abf5
set_option maxRecDepth 20000 in
theorem ggX7_digest_X7_isSound : GoodIn wsX7_digest wsX7_isSound := goodIn_r _ [377, 3, 4, 6, 378, 379, 380, 11, 381, 76, 15, 75, 5, 77, 382, 383, 384, 30, 385, 386, 85, 86, 87, 45, 46, 47, 48, 49, 50, 51, 52, 53, 54, 55, 56, 57, 58, 59, 60, 61, 62, 63, 64, 65, 66, 67, 387, 388, 389, 390, 391, 392, 393, 394, 395, 396, 397, 398, 399, 400, 401, 402, 403, 404, 405, 406, 407, 408, 409, 410, 411, 412, 413, 414, 415, 416, 421, 422, 423, 424, 425, 426, 427, 417, 418, 419, 420, 433, 434, 435, 436, 437, 438, 439] (by decide +kernel) (by decide +kernel)
set_option maxRecDepth 20000 in
theorem gX7_digest_X7_isSound : GoodIn wsX7_digest (wsV RX7 350 RX7 yX7_isSound wsX7_isSound) := goodIn_app (goodIn_of _ (by decide +kernel)) ggX7_digest_X7_isSound
theorem dX7_digest_0 : decode cX7_digest 0 = .ok (.ldc2_w 323, 3) := by decide +kernel
theorem dX7_digest_3 : decode cX7_digest 3 = .ok (.lstore_n 1, 1) := by decide +kernel
theorem dX7_digest_4 : decode cX7_digest 4 = .ok (.iconst 0, 1) := by decide +kernel
theorem dX7_digest_5 : decode cX7_digest 5 = .ok (.istore_n 3, 1) := by decide +kernel
theorem dX7_digest_6 : decode cX7_digest 6 = .ok (.iload_n 3, 1) := by decide +kernel
theorem dX7_digest_7 : decode cX7_digest 7 = .ok (.bipush 16, 2) := by decide +kernel
theorem dX7_digest_9 : decode cX7_digest 9 = .ok (.if_icmp .gt 22, 3) := by decide +kernel
theorem dX7_digest_12 : decode cX7_digest 12 = .ok (.lload_n 1, 1) := by decide +kernel
theorem dX7_digest_13 : decode cX7_digest 13 = .ok (.ldc2_w 325, 3) := by decide +kernel
theorem dX7_digest_16 : decode cX7_digest 16 = .ok (.lmul, 1) := by decide +kernel
theorem dX7_digest_17 : decode cX7_digest 17 = .ok (.aload_n 0, 1) := by decide +kernel
theorem dX7_digest_18 : decode cX7_digest 18 = .ok (.iload_n 3, 1) := by decide +kernel
theorem dX7_digest_19 : decode cX7_digest 19 = .ok (.invokevirtual 327, 3) := by decide +kernel
theorem dX7_digest_22 : decode cX7_digest 22 = .ok (.i2l, 1) := by decide +kernel
theorem dX7_digest_23 : decode cX7_digest 23 = .ok (.ladd, 1) := by decide +kernel
theorem dX7_digest_24 : decode cX7_digest 24 = .ok (.lstore_n 1, 1) := by decide +kernel
theorem dX7_digest_25 : decode cX7_digest 25 = .ok (.iinc 3 1, 3) := by decide +kernel
theorem dX7_digest_28 : decode cX7_digest 28 = .ok (.goto (-22), 3) := by decide +kernel
theorem dX7_digest_31 : decode cX7_digest 31 = .ok (.iconst 0, 1) := by decide +kernel
theorem dX7_digest_32 : decode cX7_digest 32 = .ok (.istore_n 3, 1) := by decide +kernel
theorem dX7_digest_33 : decode cX7_digest 33 = .ok (.iload_n 3, 1) := by decide +kernel
theorem dX7_digest_34 : decode cX7_digest 34 = .ok (.aload_n 0, 1) := by decide +kernel
theorem dX7_digest_35 : decode cX7_digest 35 = .ok (.getfield 57, 3) := by decide +kernel
theorem dX7_digest_38 : decode cX7_digest 38 = .ok (.if_icmp .ge 84, 3) := by decide +kernel
theorem dX7_digest_41 : decode cX7_digest 41 = .ok (.iconst 0, 1) := by decide +kernel
theorem dX7_digest_42 : decode cX7_digest 42 = .ok (.istore 4, 2) := by decide +kernel
theorem dX7_digest_44 : decode cX7_digest 44 = .ok (.iload 4, 2) := by decide +kernel
theorem dX7_digest_46 : decode cX7_digest 46 = .ok (.bipush 9, 2) := by decide +kernel
theorem dX7_digest_48 : decode cX7_digest 48 = .ok (.if_icmp .gt 24, 3) := by decide +kernel
theorem dX7_digest_51 : decode cX7_digest 51 = .ok (.lload_n 1, 1) := by decide +kernel
theorem dX7_digest_52 : decode cX7_digest 52 = .ok (.ldc2_w 325, 3) := by decide +kernel
theorem dX7_digest_55 : decode cX7_digest 55 = .ok (.lmul, 1) := by decide +kernel
theorem dX7_digest_56 : decode cX7_digest 56 = .ok (.aload_n 0, 1) := by decide +kernel
theorem dX7_digest_57 : decode cX7_digest 57 = .ok (.iload_n 3, 1) := by decide +kernel
theorem dX7_digest_58 : decode cX7_digest 58 = .ok (.iload 4, 2) := by decide +kernel
theorem dX7_digest_60 : decode cX7_digest 60 = .ok (.invokevirtual 330, 3) := by decide +kernel
theorem dX7_digest_63 : decode cX7_digest 63 = .ok (.i2l, 1) := by decide +kernel
theorem dX7_digest_64 : decode cX7_digest 64 = .ok (.ladd, 1) := by decide +kernel
theorem dX7_digest_65 : decode cX7_digest 65 = .ok (.lstore_n 1, 1) := by decide +kernel
theorem dX7_digest_66 : decode cX7_digest 66 = .ok (.iinc 4 1, 3) := by decide +kernel
theorem dX7_digest_69 : decode cX7_digest 69 = .ok (.goto (-25), 3) := by decide +kernel
theorem dX7_digest_72 : decode cX7_digest 72 = .ok (.lload_n 1, 1) := by decide +kernel
theorem dX7_digest_73 : decode cX7_digest 73 = .ok (.ldc2_w 325, 3) := by decide +kernel
theorem dX7_digest_76 : decode cX7_digest 76 = .ok (.lmul, 1) := by decide +kernel
theorem dX7_digest_77 : decode cX7_digest 77 = .ok (.aload_n 0, 1) := by decide +kernel
theorem dX7_digest_78 : decode cX7_digest 78 = .ok (.iload_n 3, 1) := by decide +kernel
theorem dX7_digest_79 : decode cX7_digest 79 = .ok (.aload_n 0, 1) := by decide +kernel
theorem dX7_digest_80 : decode cX7_digest 80 = .ok (.getfield 18, 3) := by decide +kernel
theorem dX7_digest_83 : decode cX7_digest 83 = .ok (.iload_n 3, 1) := by decide +kernel
theorem dX7_digest_84 : decode cX7_digest 84 = .ok (.aaload, 1) := by decide +kernel
theorem dX7_digest_85 : decode cX7_digest 85 = .ok (.getfield 66, 3) := by decide +kernel
theorem dX7_digest_88 : decode cX7_digest 88 = .ok (.invokevirtual 333, 3) := by decide +kernel
theorem dX7_digest_91 : decode cX7_digest 91 = .ok (.i2l, 1) := by decide +kernel
theorem dX7_digest_92 : decode cX7_digest 92 = .ok (.ladd, 1) := by decide +kernel
theorem dX7_digest_93 : decode cX7_digest 93 = .ok (.lstore_n 1, 1) := by decide +kernel
theorem dX7_digest_94 : decode cX7_digest 94 = .ok (.lload_n 1, 1) := by decide +kernel
theorem dX7_digest_95 : decode cX7_digest 95 = .ok (.ldc2_w 325, 3) := by decide +kernel
theorem dX7_digest_98 : decode cX7_digest 98 = .ok (.lmul, 1) := by decide +kernel
theorem dX7_digest_99 : decode cX7_digest 99 = .ok (.aload_n 0, 1) := by decide +kernel
theorem dX7_digest_100 : decode cX7_digest 100 = .ok (.iload_n 3, 1) := by decide +kernel
theorem dX7_digest_101 : decode cX7_digest 101 = .ok (.aload_n 0, 1) := by decide +kernel
theorem dX7_digest_102 : decode cX7_digest 102 = .ok (.getfield 18, 3) := by decide +kernel
theorem dX7_digest_105 : decode cX7_digest 105 = .ok (.iload_n 3, 1) := by decide +kernel
theorem dX7_digest_106 : decode cX7_digest 106 = .ok (.aaload, 1) := by decide +kernel
theorem dX7_digest_107 : decode cX7_digest 107 = .ok (.getfield 66, 3) := by decide +kernel
theorem dX7_digest_110 : decode cX7_digest 110 = .ok (.invokevirtual 336, 3) := by decide +kernel
theorem dX7_digest_113 : decode cX7_digest 113 = .ok (.i2l, 1) := by decide +kernel
theorem dX7_digest_114 : decode cX7_digest 114 = .ok (.ladd, 1) := by decide +kernel
theorem dX7_digest_115 : decode cX7_digest 115 = .ok (.lstore_n 1, 1) := by decide +kernel
theorem dX7_digest_116 : decode cX7_digest 116 = .ok (.iinc 3 1, 3) := by decide +kernel
theorem dX7_digest_119 : decode cX7_digest 119 = .ok (.goto (-86), 3) := by decide +kernel
theorem dX7_digest_122 : decode cX7_digest 122 = .ok (.iconst 0, 1) := by decide +kernel
theorem dX7_digest_123 : decode cX7_digest 123 = .ok (.istore_n 3, 1) := by decide +kernel
theorem dX7_digest_124 : decode cX7_digest 124 = .ok (.iload_n 3, 1) := by decide +kernel
theorem dX7_digest_125 : decode cX7_digest 125 = .ok (.aload_n 0, 1) := by decide +kernel
theorem dX7_digest_126 : decode cX7_digest 126 = .ok (.getfield 42, 3) := by decide +kernel
theorem dX7_digest_129 : decode cX7_digest 129 = .ok (.getfield 283, 3) := by decide +kernel
theorem dX7_digest_132 : decode cX7_digest 132 = .ok (.if_icmp .ge 40, 3) := by decide +kernel
theorem dX7_digest_135 : decode cX7_digest 135 = .ok (.iconst 0, 1) := by decide +kernel
theorem dX7_digest_136 : decode cX7_digest 136 = .ok (.istore 4, 2) := by decide +kernel
theorem dX7_digest_138 : decode cX7_digest 138 = .ok (.iload 4, 2) := by decide +kernel
theorem dX7_digest_140 : decode cX7_digest 140 = .ok (.bipush 6, 2) := by decide +kernel
theorem dX7_digest_142 : decode cX7_digest 142 = .ok (.if_icmp .gt 24, 3) := by decide +kernel
theorem dX7_digest_145 : decode cX7_digest 145 = .ok (.lload_n 1, 1) := by decide +kernel
theorem dX7_digest_146 : decode cX7_digest 146 = .ok (.ldc2_w 325, 3) := by decide +kernel
theorem dX7_digest_149 : decode cX7_digest 149 = .ok (.lmul, 1) := by decide +kernel
theorem dX7_digest_150 : decode cX7_digest 150 = .ok (.aload_n 0, 1) := by decide +kernel
theorem dX7_digest_151 : decode cX7_digest 151 = .ok (.iload_n 3, 1) := by decide +kernel
theorem dX7_digest_152 : decode cX7_digest 152 = .ok (.iload 4, 2) := by decide +kernel
theorem dX7_digest_154 : decode cX7_digest 154 = .ok (.invokevirtual 339, 3) := by decide +kernel
theorem dX7_digest_157 : decode cX7_digest 157 = .ok (.i2l, 1) := by decide +kernel
theorem dX7_digest_158 : decode cX7_digest 158 = .ok (.ladd, 1) := by decide +kernel
theorem dX7_digest_159 : decode cX7_digest 159 = .ok (.lstore_n 1, 1) := by decide +kernel
theorem dX7_digest_160 : decode cX7_digest 160 = .ok (.iinc 4 1, 3) := by decide +kernel
theorem dX7_digest_163 : decode cX7_digest 163 = .ok (.goto (-25), 3) := by decide +kernel
theorem dX7_digest_166 : decode cX7_digest 166 = .ok (.iinc 3 1, 3) := by decide +kernel
theorem dX7_digest_169 : decode cX7_digest 169 = .ok (.goto (-45), 3) := by decide +kernel
theorem dX7_digest_172 : decode cX7_digest 172 = .ok (.lload_n 1, 1) := by decide +kernel
theorem dX7_digest_173 : decode cX7_digest 173 = .ok (.ldc2_w 325, 3) := by decide +kernel
theorem dX7_digest_176 : decode cX7_digest 176 = .ok (.lmul, 1) := by decide +kernel
theorem dX7_digest_177 : decode cX7_digest 177 = .ok (.aload_n 0, 1) := by decide +kernel
theorem dX7_digest_178 : decode cX7_digest 178 = .ok (.invokevirtual 342, 3) := by decide +kernel
theorem dX7_digest_181 : decode cX7_digest 181 = .ok (.invokevirtual 345, 3) := by decide +kernel
theorem dX7_digest_184 : decode cX7_digest 184 = .ok (.i2l, 1) := by decide +kernel
theorem dX7_digest_185 : decode cX7_digest 185 = .ok (.ladd, 1) := by decide +kernel
theorem dX7_digest_186 : decode cX7_digest 186 = .ok (.lstore_n 1, 1) := by decide +kernel
theorem dX7_digest_187 : decode cX7_digest 187 = .ok (.lload_n 1, 1) := by decide +kernel
theorem dX7_digest_188 : decode cX7_digest 188 = .ok (.ldc2_w 325, 3) := by decide +kernel
theorem dX7_digest_191 : decode cX7_digest 191 = .ok (.lmul, 1) := by decide +kernel
theorem dX7_digest_192 : decode cX7_digest 192 = .ok (.aload_n 0, 1) := by decide +kernel
theorem dX7_digest_193 : decode cX7_digest 193 = .ok (.invokevirtual 350, 3) := by decide +kernel
theorem dX7_digest_196 : decode cX7_digest 196 = .ok (.ifCond .eq 7, 3) := by decide +kernel
theorem dX7_digest_199 : decode cX7_digest 199 = .ok (.iconst 1, 1) := by decide +kernel
theorem dX7_digest_200 : decode cX7_digest 200 = .ok (.goto 4, 3) := by decide +kernel
theorem dX7_digest_203 : decode cX7_digest 203 = .ok (.iconst 0, 1) := by decide +kernel
theorem dX7_digest_204 : decode cX7_digest 204 = .ok (.i2l, 1) := by decide +kernel
theorem dX7_digest_205 : decode cX7_digest 205 = .ok (.ladd, 1) := by decide +kernel
theorem dX7_digest_206 : decode cX7_digest 206 = .ok (.lreturn, 1) := by decide +kernel
theorem dX7_isOutside_0 : decode cX7_isOutside 0 = .ok (.iload_n 0, 1) := by decide +kernel
theorem dX7_isOutside_1 : decode cX7_isOutside 1 = .ok (.iload_n 1, 1) := by decide +kernel
theorem dX7_isOutside_2 : decode cX7_isOutside 2 = .ok (.if_icmp .lt 8, 3) := by decide +kernel
theorem dX7_isOutside_5 : decode cX7_isOutside 5 = .ok (.iload_n 0, 1) := by decide +kernel
theorem dX7_isOutside_6 : decode cX7_isOutside 6 = .ok (.iload_n 2, 1) := by decide +kernel
theorem dX7_isOutside_7 : decode cX7_isOutside 7 = .ok (.if_icmp .le 7, 3) := by decide +kernel
theorem dX7_isOutside_10 : decode cX7_isOutside 10 = .ok (.iconst 1, 1) := by decide +kernel
theorem dX7_isOutside_11 : decode cX7_isOutside 11 = .ok (.goto 4, 3) := by decide +kernel
theorem dX7_isOutside_14 : decode cX7_isOutside 14 = .ok (.iconst 0, 1) := by decide +kernel
theorem dX7_isOutside_15 : decode cX7_isOutside 15 = .ok (.ireturn, 1) := by decide +kernel
set_option maxRecDepth 20000 in
theorem ggX7_isNoAngle_X7_isOutside : GoodIn wsX7_isNoAngle wsX7_isOutside := goodIn_r _ [4] (by decide +kernel) (by decide +kernel)
set_option maxRecDepth 20000 in
theorem gX7_isNoAngle_X7_isOutside : GoodIn wsX7_isNoAngle (va_wsS RX7 46 yX7_isOutside wsX7_isOutside) := goodIn_app (goodIn_of _ (by decide +kernel)) ggX7_isNoAngle_X7_isOutside
theorem dX7_isNoAngle_0 : decode cX7_isNoAngle 0 = .ok (.iload_n 0, 1) := by decide +kernel
theorem dX7_isNoAngle_1 : decode cX7_isNoAngle 1 = .ok (.iconst 0, 1) := by decide +kernel
theorem dX7_isNoAngle_2 : decode cX7_isNoAngle 2 = .ok (.bipush 23, 2) := by decide +kernel
theorem dX7_isNoAngle_4 : decode cX7_isNoAngle 4 = .ok (.invokestatic 46, 3) := by decide +kernel
theorem dX7_isNoAngle_7 : decode cX7_isNoAngle 7 = .ok (.ireturn, 1) := by decide +kernel
set_option maxRecDepth 20000 in
theorem ggX7_isNoLift_X7_isOutside : GoodIn wsX7_isNoLift wsX7_isOutside := goodIn_r _ [5] (by decide +kernel) (by decide +kernel)
set_option maxRecDepth 20000 in
theorem gX7_isNoLift_X7_isOutside : GoodIn wsX7_isNoLift (va_wsS RX7 46 yX7_isOutside wsX7_isOutside) := goodIn_app (goodIn_of _ (by decide +kernel)) ggX7_isNoLift_X7_isOutside
set_option maxRecDepth 20000 in
theorem ggX7_isNoLift_X7_isNoAngle : GoodIn wsX7_isNoLift wsX7_isNoAngle := goodIn_r _ [8, 2, 3, 4, 5] (by decide +kernel) (by decide +kernel)
set_option maxRecDepth 20000 in
theorem gX7_isNoLift_X7_isNoAngle : GoodIn wsX7_isNoLift (va_wsS RX7 111 yX7_isNoAngle wsX7_isNoAngle) := goodIn_app (goodIn_of _ (by decide +kernel)) ggX7_isNoLift_X7_isNoAngle
theorem dX7_isNoLift_0 : decode cX7_isNoLift 0 = .ok (.iload_n 1, 1) := by decide +kernel
theorem dX7_isNoLift_1 : decode cX7_isNoLift 1 = .ok (.iconst 1, 1) := by decide +kernel
theorem dX7_isNoLift_2 : decode cX7_isNoLift 2 = .ok (.sipush 199, 3) := by decide +kernel
theorem dX7_isNoLift_5 : decode cX7_isNoLift 5 = .ok (.invokestatic 46, 3) := by decide +kernel
theorem dX7_isNoLift_8 : decode cX7_isNoLift 8 = .ok (.ifCond .ne 37, 3) := by decide +kernel
theorem dX7_isNoLift_11 : decode cX7_isNoLift 11 = .ok (.iload_n 2, 1) := by decide +kernel
theorem dX7_isNoLift_12 : decode cX7_isNoLift 12 = .ok (.bipush 10, 2) := by decide +kernel
theorem dX7_isNoLift_14 : decode cX7_isNoLift 14 = .ok (.aload_n 0, 1) := by decide +kernel
theorem dX7_isNoLift_15 : decode cX7_isNoLift 15 = .ok (.getfield 66, 3) := by decide +kernel
theorem dX7_isNoLift_18 : decode cX7_isNoLift 18 = .ok (.invokestatic 46, 3) := by decide +kernel
theorem dX7_isNoLift_21 : decode cX7_isNoLift 21 = .ok (.ifCond .ne 24, 3) := by decide +kernel
theorem dX7_isNoLift_24 : decode cX7_isNoLift 24 = .ok (.iload_n 3, 1) := by decide +kernel
theorem dX7_isNoLift_25 : decode cX7_isNoLift 25 = .ok (.bipush 10, 2) := by decide +kernel
theorem dX7_isNoLift_27 : decode cX7_isNoLift 27 = .ok (.aload_n 0, 1) := by decide +kernel
theorem dX7_isNoLift_28 : decode cX7_isNoLift 28 = .ok (.getfield 66, 3) := by decide +kernel
theorem dX7_isNoLift_31 : decode cX7_isNoLift 31 = .ok (.invokestatic 46, 3) := by decide +kernel
theorem dX7_isNoLift_34 : decode cX7_isNoLift 34 = .ok (.ifCond .ne 11, 3) := by decide +kernel
theorem dX7_isNoLift_37 : decode cX7_isNoLift 37 = .ok (.iload 4, 2) := by decide +kernel
theorem dX7_isNoLift_39 : decode cX7_isNoLift 39 = .ok (.invokestatic 111, 3) := by decide +kernel
theorem dX7_isNoLift_42 : decode cX7_isNoLift 42 = .ok (.ifCond .eq 7, 3) := by decide +kernel
theorem dX7_isNoLift_45 : decode cX7_isNoLift 45 = .ok (.iconst 1, 1) := by decide +kernel
theorem dX7_isNoLift_46 : decode cX7_isNoLift 46 = .ok (.goto 4, 3) := by decide +kernel
theorem dX7_isNoLift_49 : decode cX7_isNoLift 49 = .ok (.iconst 0, 1) := by decide +kernel
theorem dX7_isNoLift_50 : decode cX7_isNoLift 50 = .ok (.ireturn, 1) := by decide +kernel
set_option maxRecDepth 20000 in
theorem ggX7_isNoPage_X7_isOutside : GoodIn wsX7_isNoPage wsX7_isOutside := goodIn_r _ [6] (by decide +kernel) (by decide +kernel)
set_option maxRecDepth 20000 in
theorem gX7_isNoPage_X7_isOutside : GoodIn wsX7_isNoPage (va_wsS RX7 46 yX7_isOutside wsX7_isOutside) := goodIn_app (goodIn_of _ (by decide +kernel)) ggX7_isNoPage_X7_isOutside
theorem dX7_isNoPage_0 : decode cX7_isNoPage 0 = .ok (.iload_n 1, 1) := by decide +kernel
theorem dX7_isNoPage_1 : decode cX7_isNoPage 1 = .ok (.iconst 0, 1) := by decide +kernel
theorem dX7_isNoPage_2 : decode cX7_isNoPage 2 = .ok (.aload_n 0, 1) := by decide +kernel
theorem dX7_isNoPage_3 : decode cX7_isNoPage 3 = .ok (.getfield 42, 3) := by decide +kernel
theorem dX7_isNoPage_6 : decode cX7_isNoPage 6 = .ok (.getfield 283, 3) := by decide +kernel
theorem dX7_isNoPage_9 : decode cX7_isNoPage 9 = .ok (.iconst 1, 1) := by decide +kernel
theorem dX7_isNoPage_10 : decode cX7_isNoPage 10 = .ok (.isub, 1) := by decide +kernel
theorem dX7_isNoPage_11 : decode cX7_isNoPage 11 = .ok (.invokestatic 46, 3) := by decide +kernel
theorem dX7_isNoPage_14 : decode cX7_isNoPage 14 = .ok (.ireturn, 1) := by decide +kernel
set_option maxRecDepth 20000 in
theorem ggX7_craneAt_X7_isOutside : GoodIn wsX7_craneAt wsX7_isOutside := goodIn_r _ [8] (by decide +kernel) (by decide +kernel)
set_option maxRecDepth 20000 in
theorem gX7_craneAt_X7_isOutside : GoodIn wsX7_craneAt (va_wsS RX7 46 yX7_isOutside wsX7_isOutside) := goodIn_app (goodIn_of _ (by decide +kernel)) ggX7_craneAt_X7_isOutside
theorem dX7_craneAt_0 : decode cX7_craneAt 0 = .ok (.iload_n 1, 1) := by decide +kernel
theorem dX7_craneAt_1 : decode cX7_craneAt 1 = .ok (.iconst 0, 1) := by decide +kernel
theorem dX7_craneAt_2 : decode cX7_craneAt 2 = .ok (.aload_n 0, 1) := by decide +kernel
theorem dX7_craneAt_3 : decode cX7_craneAt 3 = .ok (.getfield 57, 3) := by decide +kernel
theorem dX7_craneAt_6 : decode cX7_craneAt 6 = .ok (.iconst 1, 1) := by decide +kernel
theorem dX7_craneAt_7 : decode cX7_craneAt 7 = .ok (.isub, 1) := by decide +kernel
theorem dX7_craneAt_8 : decode cX7_craneAt 8 = .ok (.invokestatic 46, 3) := by decide +kernel
theorem dX7_craneAt_11 : decode cX7_craneAt 11 = .ok (.ifCond .eq 14, 3) := by decide +kernel
theorem dX7_craneAt_14 : decode cX7_craneAt 14 = .ok (.new 230, 3) := by decide +kernel
theorem dX7_craneAt_17 : decode cX7_craneAt 17 = .ok (.dup, 1) := by decide +kernel
theorem dX7_craneAt_18 : decode cX7_craneAt 18 = .ok (.ldc_w 353, 3) := by decide +kernel
theorem dX7_craneAt_21 : decode cX7_craneAt 21 = .ok (.invokespecial 234, 3) := by decide +kernel
theorem dX7_craneAt_24 : decode cX7_craneAt 24 = .ok (.athrow, 1) := by decide +kernel
theorem dX7_craneAt_25 : decode cX7_craneAt 25 = .ok (.aload_n 0, 1) := by decide +kernel
theorem dX7_craneAt_26 : decode cX7_craneAt 26 = .ok (.getfield 18, 3) := by decide +kernel
theorem dX7_craneAt_29 : decode cX7_craneAt 29 = .ok (.iload_n 1, 1) := by decide +kernel
theorem dX7_craneAt_30 : decode cX7_craneAt 30 = .ok (.aaload, 1) := by decide +kernel
theorem dX7_craneAt_31 : decode cX7_craneAt 31 = .ok (.areturn, 1) := by decide +kernel
set_option maxRecDepth 20000 in
theorem ggX7_risingSteps_J9_floorMod_7cf53 : GoodIn wsX7_risingSteps wsJ9_floorMod_7cf53 := goodIn_r _ [4] (by decide +kernel) (by decide +kernel)
set_option maxRecDepth 20000 in
theorem gX7_risingSteps_J9_floorMod_7cf53 : GoodIn wsX7_risingSteps (va_wsS RX7 355 yJ9_floorMod_7cf53 wsJ9_floorMod_7cf53) := goodIn_app (goodIn_of _ (by decide +kernel)) ggX7_risingSteps_J9_floorMod_7cf53
theorem dX7_risingSteps_0 : decode cX7_risingSteps 0 = .ok (.iload_n 1, 1) := by decide +kernel
theorem dX7_risingSteps_1 : decode cX7_risingSteps 1 = .ok (.iload_n 0, 1) := by decide +kernel
theorem dX7_risingSteps_2 : decode cX7_risingSteps 2 = .ok (.isub, 1) := by decide +kernel
theorem dX7_risingSteps_3 : decode cX7_risingSteps 3 = .ok (.bipush 24, 2) := by decide +kernel
theorem dX7_risingSteps_5 : decode cX7_risingSteps 5 = .ok (.invokestatic 355, 3) := by decide +kernel
theorem dX7_risingSteps_8 : decode cX7_risingSteps 8 = .ok (.ireturn, 1) := by decide +kernel
set_option maxRecDepth 20000 in
theorem ggX7_stepsBetween_X7_risingSteps : GoodIn wsX7_stepsBetween wsX7_risingSteps := goodIn_r _ [8, 9, 10, 11, 12] (by decide +kernel) (by decide +kernel)
set_option maxRecDepth 20000 in
theorem gX7_stepsBetween_X7_risingSteps : GoodIn wsX7_stepsBetween (va_wsS RX7 360 yX7_risingSteps wsX7_risingSteps) := goodIn_app (goodIn_of _ (by decide +kernel)) ggX7_stepsBetween_X7_risingSteps
theorem dX7_stepsBetween_0 : decode cX7_stepsBetween 0 = .ok (.iload_n 0, 1) := by decide +kernel
theorem dX7_stepsBetween_1 : decode cX7_stepsBetween 1 = .ok (.iload_n 1, 1) := by decide +kernel
theorem dX7_stepsBetween_2 : decode cX7_stepsBetween 2 = .ok (.invokestatic 360, 3) := by decide +kernel
theorem dX7_stepsBetween_5 : decode cX7_stepsBetween 5 = .ok (.istore_n 2, 1) := by decide +kernel
theorem dX7_stepsBetween_6 : decode cX7_stepsBetween 6 = .ok (.iload_n 2, 1) := by decide +kernel
theorem dX7_stepsBetween_7 : decode cX7_stepsBetween 7 = .ok (.bipush 24, 2) := by decide +kernel
theorem dX7_stepsBetween_9 : decode cX7_stepsBetween 9 = .ok (.iload_n 2, 1) := by decide +kernel
theorem dX7_stepsBetween_10 : decode cX7_stepsBetween 10 = .ok (.isub, 1) := by decide +kernel
theorem dX7_stepsBetween_11 : decode cX7_stepsBetween 11 = .ok (.invokestatic 363, 3) := by decide +kernel
theorem dX7_stepsBetween_14 : decode cX7_stepsBetween 14 = .ok (.ireturn, 1) := by decide +kernel
set_option maxRecDepth 20000 in
theorem ggX7_angleTowards_X7_risingSteps : GoodIn wsX7_angleTowards wsX7_risingSteps := goodIn_r _ [4, 5, 6, 7, 8] (by decide +kernel) (by decide +kernel)
set_option maxRecDepth 20000 in
theorem gX7_angleTowards_X7_risingSteps : GoodIn wsX7_angleTowards (va_wsS RX7 360 yX7_risingSteps wsX7_risingSteps) := goodIn_app (goodIn_of _ (by decide +kernel)) ggX7_angleTowards_X7_risingSteps
set_option maxRecDepth 20000 in
theorem ggX7_angleTowards_J9_floorMod_7cf53 : GoodIn wsX7_angleTowards wsJ9_floorMod_7cf53 := goodIn_r _ [8] (by decide +kernel) (by decide +kernel)
set_option maxRecDepth 20000 in
theorem gX7_angleTowards_J9_floorMod_7cf53 : GoodIn wsX7_angleTowards (va_wsS RX7 355 yJ9_floorMod_7cf53 wsJ9_floorMod_7cf53) := goodIn_app (goodIn_of _ (by decide +kernel)) ggX7_angleTowards_J9_floorMod_7cf53
theorem dX7_angleTowards_0 : decode cX7_angleTowards 0 = .ok (.iload_n 0, 1) := by decide +kernel
theorem dX7_angleTowards_1 : decode cX7_angleTowards 1 = .ok (.iload_n 1, 1) := by decide +kernel
theorem dX7_angleTowards_2 : decode cX7_angleTowards 2 = .ok (.invokestatic 360, 3) := by decide +kernel
theorem dX7_angleTowards_5 : decode cX7_angleTowards 5 = .ok (.istore_n 2, 1) := by decide +kernel
theorem dX7_angleTowards_6 : decode cX7_angleTowards 6 = .ok (.iload_n 2, 1) := by decide +kernel
theorem dX7_angleTowards_7 : decode cX7_angleTowards 7 = .ok (.ifCond .ne 5, 3) := by decide +kernel
theorem dX7_angleTowards_10 : decode cX7_angleTowards 10 = .ok (.iload_n 0, 1) := by decide +kernel
theorem dX7_angleTowards_11 : decode cX7_angleTowards 11 = .ok (.ireturn, 1) := by decide +kernel
theorem dX7_angleTowards_12 : decode cX7_angleTowards 12 = .ok (.iload_n 2, 1) := by decide +kernel
theorem dX7_angleTowards_13 : decode cX7_angleTowards 13 = .ok (.bipush 24, 2) := by decide +kernel
theorem dX7_angleTowards_15 : decode cX7_angleTowards 15 = .ok (.iload_n 2, 1) := by decide +kernel
theorem dX7_angleTowards_16 : decode cX7_angleTowards 16 = .ok (.isub, 1) := by decide +kernel
theorem dX7_angleTowards_17 : decode cX7_angleTowards 17 = .ok (.if_icmp .gt 7, 3) := by decide +kernel
theorem dX7_angleTowards_20 : decode cX7_angleTowards 20 = .ok (.iconst 1, 1) := by decide +kernel
theorem dX7_angleTowards_21 : decode cX7_angleTowards 21 = .ok (.goto 4, 3) := by decide +kernel
theorem dX7_angleTowards_24 : decode cX7_angleTowards 24 = .ok (.iconst (-1), 1) := by decide +kernel
theorem dX7_angleTowards_25 : decode cX7_angleTowards 25 = .ok (.istore_n 3, 1) := by decide +kernel
theorem dX7_angleTowards_26 : decode cX7_angleTowards 26 = .ok (.iload_n 0, 1) := by decide +kernel
theorem dX7_angleTowards_27 : decode cX7_angleTowards 27 = .ok (.iload_n 3, 1) := by decide +kernel
theorem dX7_angleTowards_28 : decode cX7_angleTowards 28 = .ok (.iadd, 1) := by decide +kernel
theorem dX7_angleTowards_29 : decode cX7_angleTowards 29 = .ok (.bipush 24, 2) := by decide +kernel
theorem dX7_angleTowards_31 : decode cX7_angleTowards 31 = .ok (.invokestatic 355, 3) := by decide +kernel
theorem dX7_angleTowards_34 : decode cX7_angleTowards 34 = .ok (.ireturn, 1) := by decide +kernel
set_option maxRecDepth 20000 in
theorem ggX7_freeLockedJibs_X1_write : GoodIn wsX7_freeLockedJibs wsX1_write := goodIn_r _ [11, 12, 13, 14, 15, 16, 17, 18, 19, 20, 21, 22, 23, 24, 25, 26, 27, 28, 29, 30, 31, 32, 61, 62, 63, 64, 65, 66, 67, 68, 69, 70, 71] (by decide +kernel) (by decide +kernel)
set_option maxRecDepth 20000 in
theorem gX7_freeLockedJibs_X1_write : GoodIn wsX7_freeLockedJibs (wsV RX7 188 RX1 yX1_write wsX1_write) := goodIn_app (goodIn_of _ (by decide +kernel)) ggX7_freeLockedJibs_X1_write
theorem dX7_freeLockedJibs_0 : decode cX7_freeLockedJibs 0 = .ok (.iconst 0, 1) := by decide +kernel
theorem dX7_freeLockedJibs_1 : decode cX7_freeLockedJibs 1 = .ok (.istore_n 1, 1) := by decide +kernel
theorem dX7_freeLockedJibs_2 : decode cX7_freeLockedJibs 2 = .ok (.iload_n 1, 1) := by decide +kernel
theorem dX7_freeLockedJibs_3 : decode cX7_freeLockedJibs 3 = .ok (.aload_n 0, 1) := by decide +kernel
theorem dX7_freeLockedJibs_4 : decode cX7_freeLockedJibs 4 = .ok (.getfield 57, 3) := by decide +kernel
theorem dX7_freeLockedJibs_7 : decode cX7_freeLockedJibs 7 = .ok (.if_icmp .ge 50, 3) := by decide +kernel
theorem dX7_freeLockedJibs_10 : decode cX7_freeLockedJibs 10 = .ok (.aload_n 0, 1) := by decide +kernel
theorem dX7_freeLockedJibs_11 : decode cX7_freeLockedJibs 11 = .ok (.getfield 18, 3) := by decide +kernel
theorem dX7_freeLockedJibs_14 : decode cX7_freeLockedJibs 14 = .ok (.iload_n 1, 1) := by decide +kernel
theorem dX7_freeLockedJibs_15 : decode cX7_freeLockedJibs 15 = .ok (.aaload, 1) := by decide +kernel
theorem dX7_freeLockedJibs_16 : decode cX7_freeLockedJibs 16 = .ok (.getfield 79, 3) := by decide +kernel
theorem dX7_freeLockedJibs_19 : decode cX7_freeLockedJibs 19 = .ok (.ifCond .eq 32, 3) := by decide +kernel
theorem dX7_freeLockedJibs_22 : decode cX7_freeLockedJibs 22 = .ok (.aload_n 0, 1) := by decide +kernel
theorem dX7_freeLockedJibs_23 : decode cX7_freeLockedJibs 23 = .ok (.getfield 18, 3) := by decide +kernel
theorem dX7_freeLockedJibs_26 : decode cX7_freeLockedJibs 26 = .ok (.iload_n 1, 1) := by decide +kernel
theorem dX7_freeLockedJibs_27 : decode cX7_freeLockedJibs 27 = .ok (.aaload, 1) := by decide +kernel
theorem dX7_freeLockedJibs_28 : decode cX7_freeLockedJibs 28 = .ok (.iconst 0, 1) := by decide +kernel
theorem dX7_freeLockedJibs_29 : decode cX7_freeLockedJibs 29 = .ok (.putfield 79, 3) := by decide +kernel
theorem dX7_freeLockedJibs_32 : decode cX7_freeLockedJibs 32 = .ok (.aload_n 0, 1) := by decide +kernel
theorem dX7_freeLockedJibs_33 : decode cX7_freeLockedJibs 33 = .ok (.getfield 42, 3) := by decide +kernel
theorem dX7_freeLockedJibs_36 : decode cX7_freeLockedJibs 36 = .ok (.iconst 2, 1) := by decide +kernel
theorem dX7_freeLockedJibs_37 : decode cX7_freeLockedJibs 37 = .ok (.iload_n 1, 1) := by decide +kernel
theorem dX7_freeLockedJibs_38 : decode cX7_freeLockedJibs 38 = .ok (.aload_n 0, 1) := by decide +kernel
theorem dX7_freeLockedJibs_39 : decode cX7_freeLockedJibs 39 = .ok (.getfield 10, 3) := by decide +kernel
theorem dX7_freeLockedJibs_42 : decode cX7_freeLockedJibs 42 = .ok (.getfield 104, 3) := by decide +kernel
theorem dX7_freeLockedJibs_45 : decode cX7_freeLockedJibs 45 = .ok (.iconst 0, 1) := by decide +kernel
theorem dX7_freeLockedJibs_46 : decode cX7_freeLockedJibs 46 = .ok (.iconst 0, 1) := by decide +kernel
theorem dX7_freeLockedJibs_47 : decode cX7_freeLockedJibs 47 = .ok (.iconst (-1), 1) := by decide +kernel
theorem dX7_freeLockedJibs_48 : decode cX7_freeLockedJibs 48 = .ok (.invokevirtual 188, 3) := by decide +kernel
theorem dX7_freeLockedJibs_51 : decode cX7_freeLockedJibs 51 = .ok (.iinc 1 1, 3) := by decide +kernel
theorem dX7_freeLockedJibs_54 : decode cX7_freeLockedJibs 54 = .ok (.goto (-52), 3) := by decide +kernel
theorem dX7_freeLockedJibs_57 : decode cX7_freeLockedJibs 57 = .ok (.return_, 1) := by decide +kernel
set_option maxRecDepth 20000 in
theorem ggX7_turnFreeJibs_X7_angleTowards : GoodIn wsX7_turnFreeJibs wsX7_angleTowards := goodIn_r _ [10, 11, 12, 9, 13, 14, 15, 16, 17] (by decide +kernel) (by decide +kernel)
set_option maxRecDepth 20000 in
theorem gX7_turnFreeJibs_X7_angleTowards : GoodIn wsX7_turnFreeJibs (va_wsS RX7 366 yX7_angleTowards wsX7_angleTowards) := goodIn_app (goodIn_of _ (by decide +kernel)) ggX7_turnFreeJibs_X7_angleTowards
theorem dX7_turnFreeJibs_0 : decode cX7_turnFreeJibs 0 = .ok (.iconst 0, 1) := by decide +kernel
theorem dX7_turnFreeJibs_1 : decode cX7_turnFreeJibs 1 = .ok (.istore_n 1, 1) := by decide +kernel
theorem dX7_turnFreeJibs_2 : decode cX7_turnFreeJibs 2 = .ok (.iload_n 1, 1) := by decide +kernel
theorem dX7_turnFreeJibs_3 : decode cX7_turnFreeJibs 3 = .ok (.aload_n 0, 1) := by decide +kernel
theorem dX7_turnFreeJibs_4 : decode cX7_turnFreeJibs 4 = .ok (.getfield 57, 3) := by decide +kernel
theorem dX7_turnFreeJibs_7 : decode cX7_turnFreeJibs 7 = .ok (.if_icmp .ge 49, 3) := by decide +kernel
theorem dX7_turnFreeJibs_10 : decode cX7_turnFreeJibs 10 = .ok (.aload_n 0, 1) := by decide +kernel
theorem dX7_turnFreeJibs_11 : decode cX7_turnFreeJibs 11 = .ok (.getfield 18, 3) := by decide +kernel
theorem dX7_turnFreeJibs_14 : decode cX7_turnFreeJibs 14 = .ok (.iload_n 1, 1) := by decide +kernel
theorem dX7_turnFreeJibs_15 : decode cX7_turnFreeJibs 15 = .ok (.aaload, 1) := by decide +kernel
theorem dX7_turnFreeJibs_16 : decode cX7_turnFreeJibs 16 = .ok (.getfield 79, 3) := by decide +kernel
theorem dX7_turnFreeJibs_19 : decode cX7_turnFreeJibs 19 = .ok (.ifCond .ne 31, 3) := by decide +kernel
theorem dX7_turnFreeJibs_22 : decode cX7_turnFreeJibs 22 = .ok (.aload_n 0, 1) := by decide +kernel
theorem dX7_turnFreeJibs_23 : decode cX7_turnFreeJibs 23 = .ok (.getfield 18, 3) := by decide +kernel
theorem dX7_turnFreeJibs_26 : decode cX7_turnFreeJibs 26 = .ok (.iload_n 1, 1) := by decide +kernel
theorem dX7_turnFreeJibs_27 : decode cX7_turnFreeJibs 27 = .ok (.aaload, 1) := by decide +kernel
theorem dX7_turnFreeJibs_28 : decode cX7_turnFreeJibs 28 = .ok (.aload_n 0, 1) := by decide +kernel
theorem dX7_turnFreeJibs_29 : decode cX7_turnFreeJibs 29 = .ok (.getfield 18, 3) := by decide +kernel
theorem dX7_turnFreeJibs_32 : decode cX7_turnFreeJibs 32 = .ok (.iload_n 1, 1) := by decide +kernel
theorem dX7_turnFreeJibs_33 : decode cX7_turnFreeJibs 33 = .ok (.aaload, 1) := by decide +kernel
theorem dX7_turnFreeJibs_34 : decode cX7_turnFreeJibs 34 = .ok (.getfield 207, 3) := by decide +kernel
theorem dX7_turnFreeJibs_37 : decode cX7_turnFreeJibs 37 = .ok (.aload_n 0, 1) := by decide +kernel
theorem dX7_turnFreeJibs_38 : decode cX7_turnFreeJibs 38 = .ok (.getfield 10, 3) := by decide +kernel
theorem dX7_turnFreeJibs_41 : decode cX7_turnFreeJibs 41 = .ok (.getfield 167, 3) := by decide +kernel
theorem dX7_turnFreeJibs_44 : decode cX7_turnFreeJibs 44 = .ok (.invokestatic 366, 3) := by decide +kernel
theorem dX7_turnFreeJibs_47 : decode cX7_turnFreeJibs 47 = .ok (.putfield 207, 3) := by decide +kernel
theorem dX7_turnFreeJibs_50 : decode cX7_turnFreeJibs 50 = .ok (.iinc 1 1, 3) := by decide +kernel
theorem dX7_turnFreeJibs_53 : decode cX7_turnFreeJibs 53 = .ok (.goto (-51), 3) := by decide +kernel
theorem dX7_turnFreeJibs_56 : decode cX7_turnFreeJibs 56 = .ok (.return_, 1) := by decide +kernel
set_option maxRecDepth 20000 in
theorem ggX7_tryLift_X4_init : GoodIn wsX7_tryLift wsX4_init := goodIn_r _ [17, 18, 19, 20, 21, 22, 23, 122, 123, 124] (by decide +kernel) (by decide +kernel)
set_option maxRecDepth 20000 in
theorem gX7_tryLift_X4_init : GoodIn wsX7_tryLift (wsX4_init) := ggX7_tryLift_X4_init
set_option maxRecDepth 20000 in
theorem ggX7_tryLift_X0_isWorn : GoodIn wsX7_tryLift wsX0_isWorn := goodIn_r _ [28, 29, 110, 111, 112, 113, 114, 115, 116, 117, 118, 119, 120, 121] (by decide +kernel) (by decide +kernel)
set_option maxRecDepth 20000 in
theorem gX7_tryLift_X0_isWorn : GoodIn wsX7_tryLift (wsV RX7 241 RX0 yX0_isWorn wsX0_isWorn) := goodIn_app (goodIn_of _ (by decide +kernel)) ggX7_tryLift_X0_isWorn
set_option maxRecDepth 20000 in
theorem ggX7_tryLift_X0_capacityAt : GoodIn wsX7_tryLift wsX0_capacityAt := goodIn_r _ [33, 34, 35, 36, 10, 37, 38, 39, 40, 27, 41, 42, 43, 44, 45, 46, 47, 48, 110, 111, 112, 113, 114, 115, 116, 117, 118, 119, 120, 121] (by decide +kernel) (by decide +kernel)
set_option maxRecDepth 20000 in
theorem gX7_tryLift_X0_capacityAt : GoodIn wsX7_tryLift (wsV RX7 107 RX0 yX0_capacityAt wsX0_capacityAt) := goodIn_app (goodIn_of _ (by decide +kernel)) ggX7_tryLift_X0_capacityAt
set_option maxRecDepth 20000 in
theorem ggX7_tryLift_X7_stepsBetween : GoodIn wsX7_tryLift wsX7_stepsBetween := goodIn_r _ [51, 12, 13, 10, 14, 52, 53, 47, 54, 55, 56, 57, 58] (by decide +kernel) (by decide +kernel)
set_option maxRecDepth 20000 in
theorem gX7_tryLift_X7_stepsBetween : GoodIn wsX7_tryLift (va_wsS RX7 244 yX7_stepsBetween wsX7_stepsBetween) := goodIn_app (goodIn_of _ (by decide +kernel)) ggX7_tryLift_X7_stepsBetween
set_option maxRecDepth 20000 in
theorem ggX7_tryLift_X7_verdictAt : GoodIn wsX7_tryLift wsX7_verdictAt := goodIn_r _ [62, 63, 64, 65, 47, 66, 6, 67, 68, 69, 70, 71, 72, 73, 74, 75, 76, 77, 78, 79, 80, 81, 82, 83, 84, 85, 86, 87, 88, 89, 53, 54, 55, 56, 57, 58, 90, 91, 92, 93, 94, 95, 96, 97, 5, 98, 99, 100, 101, 102, 103, 104, 105, 106, 125, 126, 127, 128, 129, 130, 131, 132, 133, 141, 142, 143, 144, 145, 110, 111, 112, 113, 114, 115, 116, 117, 118, 119, 120, 121, 134, 135, 136, 137, 138, 139, 140, 146, 147, 148, 149] (by decide +kernel) (by decide +kernel)
set_option maxRecDepth 20000 in
theorem gX7_tryLift_X7_verdictAt : GoodIn wsX7_tryLift (wsV RX7 375 RX7 yX7_verdictAt wsX7_verdictAt) := goodIn_app (goodIn_of _ (by decide +kernel)) ggX7_tryLift_X7_verdictAt
set_option maxRecDepth 20000 in
theorem ggX7_tryLift_X7_angleTowards : GoodIn wsX7_tryLift wsX7_angleTowards := goodIn_r _ [109, 52, 53, 47, 54, 55, 56, 57, 58] (by decide +kernel) (by decide +kernel)
set_option maxRecDepth 20000 in
theorem gX7_tryLift_X7_angleTowards : GoodIn wsX7_tryLift (va_wsS RX7 366 yX7_angleTowards wsX7_angleTowards) := goodIn_app (goodIn_of _ (by decide +kernel)) ggX7_tryLift_X7_angleTowards
theorem dX7_tryLift_0 : decode cX7_tryLift 0 = .ok (.aload_n 1, 1) := by decide +kernel
theorem dX7_tryLift_1 : decode cX7_tryLift 1 = .ok (.getfield 79, 3) := by decide +kernel
theorem dX7_tryLift_4 : decode cX7_tryLift 4 = .ok (.ifCond .ne 14, 3) := by decide +kernel
theorem dX7_tryLift_7 : decode cX7_tryLift 7 = .ok (.new 203, 3) := by decide +kernel
theorem dX7_tryLift_10 : decode cX7_tryLift 10 = .ok (.dup, 1) := by decide +kernel
theorem dX7_tryLift_11 : decode cX7_tryLift 11 = .ok (.iconst 1, 1) := by decide +kernel
theorem dX7_tryLift_12 : decode cX7_tryLift 12 = .ok (.iconst (-1), 1) := by decide +kernel
theorem dX7_tryLift_13 : decode cX7_tryLift 13 = .ok (.iconst (-1), 1) := by decide +kernel
theorem dX7_tryLift_14 : decode cX7_tryLift 14 = .ok (.invokespecial 369, 3) := by decide +kernel
theorem dX7_tryLift_17 : decode cX7_tryLift 17 = .ok (.areturn, 1) := by decide +kernel
theorem dX7_tryLift_18 : decode cX7_tryLift 18 = .ok (.aload_n 1, 1) := by decide +kernel
theorem dX7_tryLift_19 : decode cX7_tryLift 19 = .ok (.invokevirtual 241, 3) := by decide +kernel
theorem dX7_tryLift_22 : decode cX7_tryLift 22 = .ok (.ifCond .eq 14, 3) := by decide +kernel
theorem dX7_tryLift_25 : decode cX7_tryLift 25 = .ok (.new 203, 3) := by decide +kernel
theorem dX7_tryLift_28 : decode cX7_tryLift 28 = .ok (.dup, 1) := by decide +kernel
theorem dX7_tryLift_29 : decode cX7_tryLift 29 = .ok (.iconst 2, 1) := by decide +kernel
theorem dX7_tryLift_30 : decode cX7_tryLift 30 = .ok (.iconst (-1), 1) := by decide +kernel
theorem dX7_tryLift_31 : decode cX7_tryLift 31 = .ok (.iconst (-1), 1) := by decide +kernel
theorem dX7_tryLift_32 : decode cX7_tryLift 32 = .ok (.invokespecial 369, 3) := by decide +kernel
theorem dX7_tryLift_35 : decode cX7_tryLift 35 = .ok (.areturn, 1) := by decide +kernel
theorem dX7_tryLift_36 : decode cX7_tryLift 36 = .ok (.iload_n 3, 1) := by decide +kernel
theorem dX7_tryLift_37 : decode cX7_tryLift 37 = .ok (.istore 6, 2) := by decide +kernel
theorem dX7_tryLift_39 : decode cX7_tryLift 39 = .ok (.aload_n 1, 1) := by decide +kernel
theorem dX7_tryLift_40 : decode cX7_tryLift 40 = .ok (.getfield 207, 3) := by decide +kernel
theorem dX7_tryLift_43 : decode cX7_tryLift 43 = .ok (.istore 7, 2) := by decide +kernel
theorem dX7_tryLift_45 : decode cX7_tryLift 45 = .ok (.aload_n 1, 1) := by decide +kernel
theorem dX7_tryLift_46 : decode cX7_tryLift 46 = .ok (.iload_n 3, 1) := by decide +kernel
theorem dX7_tryLift_47 : decode cX7_tryLift 47 = .ok (.aload_n 0, 1) := by decide +kernel
theorem dX7_tryLift_48 : decode cX7_tryLift 48 = .ok (.getfield 10, 3) := by decide +kernel
theorem dX7_tryLift_51 : decode cX7_tryLift 51 = .ok (.getfield 104, 3) := by decide +kernel
theorem dX7_tryLift_54 : decode cX7_tryLift 54 = .ok (.invokevirtual 107, 3) := by decide +kernel
theorem dX7_tryLift_57 : decode cX7_tryLift 57 = .ok (.istore 8, 2) := by decide +kernel
theorem dX7_tryLift_59 : decode cX7_tryLift 59 = .ok (.iload 4, 2) := by decide +kernel
theorem dX7_tryLift_61 : decode cX7_tryLift 61 = .ok (.iload_n 3, 1) := by decide +kernel
theorem dX7_tryLift_62 : decode cX7_tryLift 62 = .ok (.isub, 1) := by decide +kernel
theorem dX7_tryLift_63 : decode cX7_tryLift 63 = .ok (.invokestatic 372, 3) := by decide +kernel
theorem dX7_tryLift_66 : decode cX7_tryLift 66 = .ok (.iload 7, 2) := by decide +kernel
theorem dX7_tryLift_68 : decode cX7_tryLift 68 = .ok (.iload 5, 2) := by decide +kernel
theorem dX7_tryLift_70 : decode cX7_tryLift 70 = .ok (.invokestatic 244, 3) := by decide +kernel
theorem dX7_tryLift_73 : decode cX7_tryLift 73 = .ok (.iadd, 1) := by decide +kernel
theorem dX7_tryLift_74 : decode cX7_tryLift 74 = .ok (.istore 9, 2) := by decide +kernel
theorem dX7_tryLift_76 : decode cX7_tryLift 76 = .ok (.iconst 0, 1) := by decide +kernel
theorem dX7_tryLift_77 : decode cX7_tryLift 77 = .ok (.istore 10, 2) := by decide +kernel
theorem dX7_tryLift_79 : decode cX7_tryLift 79 = .ok (.iload 10, 2) := by decide +kernel
theorem dX7_tryLift_81 : decode cX7_tryLift 81 = .ok (.iload 9, 2) := by decide +kernel
theorem dX7_tryLift_83 : decode cX7_tryLift 83 = .ok (.if_icmp .gt 99, 3) := by decide +kernel
theorem dX7_tryLift_86 : decode cX7_tryLift 86 = .ok (.aload_n 1, 1) := by decide +kernel
theorem dX7_tryLift_87 : decode cX7_tryLift 87 = .ok (.iload 6, 2) := by decide +kernel
theorem dX7_tryLift_89 : decode cX7_tryLift 89 = .ok (.aload_n 0, 1) := by decide +kernel
theorem dX7_tryLift_90 : decode cX7_tryLift 90 = .ok (.getfield 10, 3) := by decide +kernel
theorem dX7_tryLift_93 : decode cX7_tryLift 93 = .ok (.getfield 104, 3) := by decide +kernel
theorem dX7_tryLift_96 : decode cX7_tryLift 96 = .ok (.invokevirtual 107, 3) := by decide +kernel
theorem dX7_tryLift_99 : decode cX7_tryLift 99 = .ok (.istore 11, 2) := by decide +kernel
theorem dX7_tryLift_101 : decode cX7_tryLift 101 = .ok (.aload_n 0, 1) := by decide +kernel
theorem dX7_tryLift_102 : decode cX7_tryLift 102 = .ok (.aload_n 1, 1) := by decide +kernel
theorem dX7_tryLift_103 : decode cX7_tryLift 103 = .ok (.iload_n 2, 1) := by decide +kernel
theorem dX7_tryLift_104 : decode cX7_tryLift 104 = .ok (.iload 11, 2) := by decide +kernel
theorem dX7_tryLift_106 : decode cX7_tryLift 106 = .ok (.iload 7, 2) := by decide +kernel
theorem dX7_tryLift_108 : decode cX7_tryLift 108 = .ok (.invokevirtual 375, 3) := by decide +kernel
theorem dX7_tryLift_111 : decode cX7_tryLift 111 = .ok (.istore 12, 2) := by decide +kernel
theorem dX7_tryLift_113 : decode cX7_tryLift 113 = .ok (.iload 12, 2) := by decide +kernel
theorem dX7_tryLift_115 : decode cX7_tryLift 115 = .ok (.ifCond .eq 16, 3) := by decide +kernel
theorem dX7_tryLift_118 : decode cX7_tryLift 118 = .ok (.new 203, 3) := by decide +kernel
theorem dX7_tryLift_121 : decode cX7_tryLift 121 = .ok (.dup, 1) := by decide +kernel
theorem dX7_tryLift_122 : decode cX7_tryLift 122 = .ok (.iload 12, 2) := by decide +kernel
theorem dX7_tryLift_124 : decode cX7_tryLift 124 = .ok (.iload 10, 2) := by decide +kernel
theorem dX7_tryLift_126 : decode cX7_tryLift 126 = .ok (.iconst (-1), 1) := by decide +kernel
theorem dX7_tryLift_127 : decode cX7_tryLift 127 = .ok (.invokespecial 369, 3) := by decide +kernel
theorem dX7_tryLift_130 : decode cX7_tryLift 130 = .ok (.areturn, 1) := by decide +kernel
theorem dX7_tryLift_131 : decode cX7_tryLift 131 = .ok (.iload 8, 2) := by decide +kernel
theorem dX7_tryLift_133 : decode cX7_tryLift 133 = .ok (.iload 11, 2) := by decide +kernel
theorem dX7_tryLift_135 : decode cX7_tryLift 135 = .ok (.invokestatic 363, 3) := by decide +kernel
theorem dX7_tryLift_138 : decode cX7_tryLift 138 = .ok (.istore 8, 2) := by decide +kernel
theorem dX7_tryLift_140 : decode cX7_tryLift 140 = .ok (.iload 6, 2) := by decide +kernel
theorem dX7_tryLift_142 : decode cX7_tryLift 142 = .ok (.iload 4, 2) := by decide +kernel
theorem dX7_tryLift_144 : decode cX7_tryLift 144 = .ok (.if_icmp .eq 23, 3) := by decide +kernel
theorem dX7_tryLift_147 : decode cX7_tryLift 147 = .ok (.iload 6, 2) := by decide +kernel
theorem dX7_tryLift_149 : decode cX7_tryLift 149 = .ok (.iload 6, 2) := by decide +kernel
theorem dX7_tryLift_151 : decode cX7_tryLift 151 = .ok (.iload 4, 2) := by decide +kernel
theorem dX7_tryLift_153 : decode cX7_tryLift 153 = .ok (.if_icmp .ge 7, 3) := by decide +kernel
theorem dX7_tryLift_156 : decode cX7_tryLift 156 = .ok (.iconst 1, 1) := by decide +kernel
theorem dX7_tryLift_157 : decode cX7_tryLift 157 = .ok (.goto 4, 3) := by decide +kernel
theorem dX7_tryLift_160 : decode cX7_tryLift 160 = .ok (.iconst (-1), 1) := by decide +kernel
theorem dX7_tryLift_161 : decode cX7_tryLift 161 = .ok (.iadd, 1) := by decide +kernel
theorem dX7_tryLift_162 : decode cX7_tryLift 162 = .ok (.istore 6, 2) := by decide +kernel
theorem dX7_tryLift_164 : decode cX7_tryLift 164 = .ok (.goto 12, 3) := by decide +kernel
theorem dX7_tryLift_167 : decode cX7_tryLift 167 = .ok (.iload 7, 2) := by decide +kernel
theorem dX7_tryLift_169 : decode cX7_tryLift 169 = .ok (.iload 5, 2) := by decide +kernel
theorem dX7_tryLift_171 : decode cX7_tryLift 171 = .ok (.invokestatic 366, 3) := by decide +kernel
theorem dX7_tryLift_174 : decode cX7_tryLift 174 = .ok (.istore 7, 2) := by decide +kernel
theorem dX7_tryLift_176 : decode cX7_tryLift 176 = .ok (.iinc 10 1, 3) := by decide +kernel
theorem dX7_tryLift_179 : decode cX7_tryLift 179 = .ok (.goto (-100), 3) := by decide +kernel
theorem dX7_tryLift_182 : decode cX7_tryLift 182 = .ok (.new 203, 3) := by decide +kernel
theorem dX7_tryLift_185 : decode cX7_tryLift 185 = .ok (.dup, 1) := by decide +kernel
theorem dX7_tryLift_186 : decode cX7_tryLift 186 = .ok (.iconst 0, 1) := by decide +kernel
theorem dX7_tryLift_187 : decode cX7_tryLift 187 = .ok (.iconst (-1), 1) := by decide +kernel
theorem dX7_tryLift_188 : decode cX7_tryLift 188 = .ok (.iload 8, 2) := by decide +kernel
theorem dX7_tryLift_190 : decode cX7_tryLift 190 = .ok (.invokespecial 369, 3) := by decide +kernel
theorem dX7_tryLift_193 : decode cX7_tryLift 193 = .ok (.areturn, 1) := by decide +kernel
set_option maxRecDepth 20000 in
theorem ggX7_verdictAt_X7_isInShutZone : GoodIn wsX7_verdictAt wsX7_isInShutZone := goodIn_r _ [5, 6, 7, 8, 9, 10, 11, 12, 13, 14, 15, 16, 17, 18, 19, 20, 21, 22, 23, 24, 25, 26, 27, 28, 29, 30, 4, 31, 32, 33, 34, 35, 54, 55, 56, 57, 58, 59, 60, 61, 62, 63, 64, 65, 66, 67, 68, 69, 70, 71, 72, 73, 74, 75, 76, 77, 78, 79, 80, 81, 82, 83, 84, 85, 86] (by decide +kernel) (by decide +kernel)
set_option maxRecDepth 20000 in
theorem gX7_verdictAt_X7_isInShutZone : GoodIn wsX7_verdictAt (wsV RX7 379 RX7 yX7_isInShutZone wsX7_isInShutZone) := goodIn_app (goodIn_of _ (by decide +kernel)) ggX7_verdictAt_X7_isInShutZone
set_option maxRecDepth 20000 in
theorem ggX7_verdictAt_X7_wouldClash : GoodIn wsX7_verdictAt wsX7_wouldClash := goodIn_r _ [39, 40, 41, 42, 10, 43, 44, 45, 46, 47, 48, 49, 50, 51, 52, 53, 54, 55, 56, 57, 58, 59, 60, 61, 62, 68, 69, 70, 71, 72, 73, 74, 75, 76, 77, 78, 79, 87, 88, 89, 90] (by decide +kernel) (by decide +kernel)
set_option maxRecDepth 20000 in
theorem gX7_verdictAt_X7_wouldClash : GoodIn wsX7_verdictAt (wsV RX7 383 RX7 yX7_wouldClash wsX7_wouldClash) := goodIn_app (goodIn_of _ (by decide +kernel)) ggX7_verdictAt_X7_wouldClash
theorem dX7_verdictAt_0 : decode cX7_verdictAt 0 = .ok (.iload_n 2, 1) := by decide +kernel
theorem dX7_verdictAt_1 : decode cX7_verdictAt 1 = .ok (.iload_n 3, 1) := by decide +kernel
theorem dX7_verdictAt_2 : decode cX7_verdictAt 2 = .ok (.if_icmp .le 5, 3) := by decide +kernel
theorem dX7_verdictAt_5 : decode cX7_verdictAt 5 = .ok (.iconst 3, 1) := by decide +kernel
theorem dX7_verdictAt_6 : decode cX7_verdictAt 6 = .ok (.ireturn, 1) := by decide +kernel
theorem dX7_verdictAt_7 : decode cX7_verdictAt 7 = .ok (.aload_n 0, 1) := by decide +kernel
theorem dX7_verdictAt_8 : decode cX7_verdictAt 8 = .ok (.aload_n 1, 1) := by decide +kernel
theorem dX7_verdictAt_9 : decode cX7_verdictAt 9 = .ok (.iload 4, 2) := by decide +kernel
theorem dX7_verdictAt_11 : decode cX7_verdictAt 11 = .ok (.invokevirtual 379, 3) := by decide +kernel
theorem dX7_verdictAt_14 : decode cX7_verdictAt 14 = .ok (.ifCond .eq 5, 3) := by decide +kernel
theorem dX7_verdictAt_17 : decode cX7_verdictAt 17 = .ok (.iconst 4, 1) := by decide +kernel
theorem dX7_verdictAt_18 : decode cX7_verdictAt 18 = .ok (.ireturn, 1) := by decide +kernel
theorem dX7_verdictAt_19 : decode cX7_verdictAt 19 = .ok (.aload_n 0, 1) := by decide +kernel
theorem dX7_verdictAt_20 : decode cX7_verdictAt 20 = .ok (.aload_n 1, 1) := by decide +kernel
theorem dX7_verdictAt_21 : decode cX7_verdictAt 21 = .ok (.iload 4, 2) := by decide +kernel
theorem dX7_verdictAt_23 : decode cX7_verdictAt 23 = .ok (.invokevirtual 383, 3) := by decide +kernel
theorem dX7_verdictAt_26 : decode cX7_verdictAt 26 = .ok (.ifCond .eq 7, 3) := by decide +kernel
theorem dX7_verdictAt_29 : decode cX7_verdictAt 29 = .ok (.iconst 5, 1) := by decide +kernel
theorem dX7_verdictAt_30 : decode cX7_verdictAt 30 = .ok (.goto 4, 3) := by decide +kernel
theorem dX7_verdictAt_33 : decode cX7_verdictAt 33 = .ok (.iconst 0, 1) := by decide +kernel
theorem dX7_verdictAt_34 : decode cX7_verdictAt 34 = .ok (.ireturn, 1) := by decide +kernel
set_option maxRecDepth 20000 in
theorem ggX7_isInShutZone_X5_hour : GoodIn wsX7_isInShutZone wsX5_hour := goodIn_r _ [10, 11, 58, 59, 60, 61, 62, 63, 64] (by decide +kernel) (by decide +kernel)
set_option maxRecDepth 20000 in
theorem gX7_isInShutZone_X5_hour : GoodIn wsX7_isInShutZone (wsV RX7 270 RX5 yX5_hour wsX5_hour) := goodIn_app (goodIn_of _ (by decide +kernel)) ggX7_isInShutZone_X5_hour
set_option maxRecDepth 20000 in
theorem ggX7_isInShutZone_X6_isShutAt : GoodIn wsX7_isInShutZone wsX6_isShutAt := goodIn_r _ [16, 17, 18, 41, 42, 43, 44, 45] (by decide +kernel) (by decide +kernel)
set_option maxRecDepth 20000 in
theorem gX7_isInShutZone_X6_isShutAt : GoodIn wsX7_isInShutZone (wsV RX7 386 RX6 yX6_isShutAt wsX6_isShutAt) := goodIn_app (goodIn_of _ (by decide +kernel)) ggX7_isInShutZone_X6_isShutAt
set_option maxRecDepth 20000 in
theorem ggX7_isInShutZone_X6_holds : GoodIn wsX7_isInShutZone wsX6_holds := goodIn_r _ [22, 23, 24, 25, 26, 27, 28, 29, 30, 31, 41, 42, 43, 44, 45] (by decide +kernel) (by decide +kernel)
set_option maxRecDepth 20000 in
theorem gX7_isInShutZone_X6_holds : GoodIn wsX7_isInShutZone (wsV RX7 389 RX6 yX6_holds wsX6_holds) := goodIn_app (goodIn_of _ (by decide +kernel)) ggX7_isInShutZone_X6_holds
theorem dX7_isInShutZone_0 : decode cX7_isInShutZone 0 = .ok (.aload_n 0, 1) := by decide +kernel
theorem dX7_isInShutZone_1 : decode cX7_isInShutZone 1 = .ok (.getfield 10, 3) := by decide +kernel
theorem dX7_isInShutZone_4 : decode cX7_isInShutZone 4 = .ok (.invokevirtual 270, 3) := by decide +kernel
theorem dX7_isInShutZone_7 : decode cX7_isInShutZone 7 = .ok (.istore_n 3, 1) := by decide +kernel
theorem dX7_isInShutZone_8 : decode cX7_isInShutZone 8 = .ok (.iconst 0, 1) := by decide +kernel
theorem dX7_isInShutZone_9 : decode cX7_isInShutZone 9 = .ok (.istore 4, 2) := by decide +kernel
theorem dX7_isInShutZone_11 : decode cX7_isInShutZone 11 = .ok (.iload 4, 2) := by decide +kernel
theorem dX7_isInShutZone_13 : decode cX7_isInShutZone 13 = .ok (.aload_n 0, 1) := by decide +kernel
theorem dX7_isInShutZone_14 : decode cX7_isInShutZone 14 = .ok (.getfield 117, 3) := by decide +kernel
theorem dX7_isInShutZone_17 : decode cX7_isInShutZone 17 = .ok (.if_icmp .ge 56, 3) := by decide +kernel
theorem dX7_isInShutZone_20 : decode cX7_isInShutZone 20 = .ok (.aload_n 0, 1) := by decide +kernel
theorem dX7_isInShutZone_21 : decode cX7_isInShutZone 21 = .ok (.getfield 27, 3) := by decide +kernel
theorem dX7_isInShutZone_24 : decode cX7_isInShutZone 24 = .ok (.iload 4, 2) := by decide +kernel
theorem dX7_isInShutZone_26 : decode cX7_isInShutZone 26 = .ok (.aaload, 1) := by decide +kernel
theorem dX7_isInShutZone_27 : decode cX7_isInShutZone 27 = .ok (.getfield 122, 3) := by decide +kernel
theorem dX7_isInShutZone_30 : decode cX7_isInShutZone 30 = .ok (.aload_n 1, 1) := by decide +kernel
theorem dX7_isInShutZone_31 : decode cX7_isInShutZone 31 = .ok (.getfield 83, 3) := by decide +kernel
theorem dX7_isInShutZone_34 : decode cX7_isInShutZone 34 = .ok (.if_icmp .ne 33, 3) := by decide +kernel
theorem dX7_isInShutZone_37 : decode cX7_isInShutZone 37 = .ok (.aload_n 0, 1) := by decide +kernel
theorem dX7_isInShutZone_38 : decode cX7_isInShutZone 38 = .ok (.getfield 27, 3) := by decide +kernel
theorem dX7_isInShutZone_41 : decode cX7_isInShutZone 41 = .ok (.iload 4, 2) := by decide +kernel
theorem dX7_isInShutZone_43 : decode cX7_isInShutZone 43 = .ok (.aaload, 1) := by decide +kernel
theorem dX7_isInShutZone_44 : decode cX7_isInShutZone 44 = .ok (.iload_n 3, 1) := by decide +kernel
theorem dX7_isInShutZone_45 : decode cX7_isInShutZone 45 = .ok (.invokevirtual 386, 3) := by decide +kernel
theorem dX7_isInShutZone_48 : decode cX7_isInShutZone 48 = .ok (.ifCond .eq 19, 3) := by decide +kernel
theorem dX7_isInShutZone_51 : decode cX7_isInShutZone 51 = .ok (.aload_n 0, 1) := by decide +kernel
theorem dX7_isInShutZone_52 : decode cX7_isInShutZone 52 = .ok (.getfield 27, 3) := by decide +kernel
theorem dX7_isInShutZone_55 : decode cX7_isInShutZone 55 = .ok (.iload 4, 2) := by decide +kernel
theorem dX7_isInShutZone_57 : decode cX7_isInShutZone 57 = .ok (.aaload, 1) := by decide +kernel
theorem dX7_isInShutZone_58 : decode cX7_isInShutZone 58 = .ok (.iload_n 2, 1) := by decide +kernel
theorem dX7_isInShutZone_59 : decode cX7_isInShutZone 59 = .ok (.invokevirtual 389, 3) := by decide +kernel
theorem dX7_isInShutZone_62 : decode cX7_isInShutZone 62 = .ok (.ifCond .eq 5, 3) := by decide +kernel
theorem dX7_isInShutZone_65 : decode cX7_isInShutZone 65 = .ok (.iconst 1, 1) := by decide +kernel
theorem dX7_isInShutZone_66 : decode cX7_isInShutZone 66 = .ok (.ireturn, 1) := by decide +kernel
theorem dX7_isInShutZone_67 : decode cX7_isInShutZone 67 = .ok (.iinc 4 1, 3) := by decide +kernel
theorem dX7_isInShutZone_70 : decode cX7_isInShutZone 70 = .ok (.goto (-59), 3) := by decide +kernel
theorem dX7_isInShutZone_73 : decode cX7_isInShutZone 73 = .ok (.iconst 0, 1) := by decide +kernel
theorem dX7_isInShutZone_74 : decode cX7_isInShutZone 74 = .ok (.ireturn, 1) := by decide +kernel
set_option maxRecDepth 20000 in
theorem ggX7_wouldClash_X2_isMetBy : GoodIn wsX7_wouldClash wsX2_isMetBy := goodIn_r _ [11, 12, 13, 14, 15, 37, 38, 39, 40] (by decide +kernel) (by decide +kernel)
set_option maxRecDepth 20000 in
theorem gX7_wouldClash_X2_isMetBy : GoodIn wsX7_wouldClash (wsV RX7 392 RX2 yX2_isMetBy wsX2_isMetBy) := goodIn_app (goodIn_of _ (by decide +kernel)) ggX7_wouldClash_X2_isMetBy
theorem dX7_wouldClash_0 : decode cX7_wouldClash 0 = .ok (.iconst 0, 1) := by decide +kernel
theorem dX7_wouldClash_1 : decode cX7_wouldClash 1 = .ok (.istore_n 3, 1) := by decide +kernel
theorem dX7_wouldClash_2 : decode cX7_wouldClash 2 = .ok (.iload_n 3, 1) := by decide +kernel
theorem dX7_wouldClash_3 : decode cX7_wouldClash 3 = .ok (.aload_n 0, 1) := by decide +kernel
theorem dX7_wouldClash_4 : decode cX7_wouldClash 4 = .ok (.getfield 139, 3) := by decide +kernel
theorem dX7_wouldClash_7 : decode cX7_wouldClash 7 = .ok (.if_icmp .ge 58, 3) := by decide +kernel
theorem dX7_wouldClash_10 : decode cX7_wouldClash 10 = .ok (.iconst 0, 1) := by decide +kernel
theorem dX7_wouldClash_11 : decode cX7_wouldClash 11 = .ok (.istore 4, 2) := by decide +kernel
theorem dX7_wouldClash_13 : decode cX7_wouldClash 13 = .ok (.iload 4, 2) := by decide +kernel
theorem dX7_wouldClash_15 : decode cX7_wouldClash 15 = .ok (.aload_n 0, 1) := by decide +kernel
theorem dX7_wouldClash_16 : decode cX7_wouldClash 16 = .ok (.getfield 57, 3) := by decide +kernel
theorem dX7_wouldClash_19 : decode cX7_wouldClash 19 = .ok (.if_icmp .ge 40, 3) := by decide +kernel
theorem dX7_wouldClash_22 : decode cX7_wouldClash 22 = .ok (.aload_n 0, 1) := by decide +kernel
theorem dX7_wouldClash_23 : decode cX7_wouldClash 23 = .ok (.getfield 34, 3) := by decide +kernel
theorem dX7_wouldClash_26 : decode cX7_wouldClash 26 = .ok (.iload_n 3, 1) := by decide +kernel
theorem dX7_wouldClash_27 : decode cX7_wouldClash 27 = .ok (.aaload, 1) := by decide +kernel
theorem dX7_wouldClash_28 : decode cX7_wouldClash 28 = .ok (.aload_n 1, 1) := by decide +kernel
theorem dX7_wouldClash_29 : decode cX7_wouldClash 29 = .ok (.getfield 83, 3) := by decide +kernel
theorem dX7_wouldClash_32 : decode cX7_wouldClash 32 = .ok (.iload_n 2, 1) := by decide +kernel
theorem dX7_wouldClash_33 : decode cX7_wouldClash 33 = .ok (.iload 4, 2) := by decide +kernel
theorem dX7_wouldClash_35 : decode cX7_wouldClash 35 = .ok (.aload_n 0, 1) := by decide +kernel
theorem dX7_wouldClash_36 : decode cX7_wouldClash 36 = .ok (.getfield 18, 3) := by decide +kernel
theorem dX7_wouldClash_39 : decode cX7_wouldClash 39 = .ok (.iload 4, 2) := by decide +kernel
theorem dX7_wouldClash_41 : decode cX7_wouldClash 41 = .ok (.aaload, 1) := by decide +kernel
theorem dX7_wouldClash_42 : decode cX7_wouldClash 42 = .ok (.getfield 207, 3) := by decide +kernel
theorem dX7_wouldClash_45 : decode cX7_wouldClash 45 = .ok (.invokevirtual 392, 3) := by decide +kernel
theorem dX7_wouldClash_48 : decode cX7_wouldClash 48 = .ok (.ifCond .eq 5, 3) := by decide +kernel
theorem dX7_wouldClash_51 : decode cX7_wouldClash 51 = .ok (.iconst 1, 1) := by decide +kernel
theorem dX7_wouldClash_52 : decode cX7_wouldClash 52 = .ok (.ireturn, 1) := by decide +kernel
theorem dX7_wouldClash_53 : decode cX7_wouldClash 53 = .ok (.iinc 4 1, 3) := by decide +kernel
theorem dX7_wouldClash_56 : decode cX7_wouldClash 56 = .ok (.goto (-43), 3) := by decide +kernel
theorem dX7_wouldClash_59 : decode cX7_wouldClash 59 = .ok (.iinc 3 1, 3) := by decide +kernel
theorem dX7_wouldClash_62 : decode cX7_wouldClash 62 = .ok (.goto (-60), 3) := by decide +kernel
theorem dX7_wouldClash_65 : decode cX7_wouldClash 65 = .ok (.iconst 0, 1) := by decide +kernel
theorem dX7_wouldClash_66 : decode cX7_wouldClash 66 = .ok (.ireturn, 1) := by decide +kernel
set_option maxRecDepth 20000 in
theorem ggX7_tandemVerdict_X0_isWorn : GoodIn wsX7_tandemVerdict wsX0_isWorn := goodIn_r _ [9, 10, 31, 32, 33, 34, 35, 36, 37, 38, 39, 40, 41, 42] (by decide +kernel) (by decide +kernel)
set_option maxRecDepth 20000 in
theorem gX7_tandemVerdict_X0_isWorn : GoodIn wsX7_tandemVerdict (wsV RX7 241 RX0 yX0_isWorn wsX0_isWorn) := goodIn_app (goodIn_of _ (by decide +kernel)) ggX7_tandemVerdict_X0_isWorn
set_option maxRecDepth 20000 in
theorem ggX7_tandemVerdict_X0_capacityAt : GoodIn wsX7_tandemVerdict wsX0_capacityAt := goodIn_r _ [14, 15, 16, 17, 18, 19, 20, 21, 22, 8, 23, 24, 25, 26, 27, 28, 29, 30, 31, 32, 33, 34, 35, 36, 37, 38, 39, 40, 41, 42] (by decide +kernel) (by decide +kernel)
set_option maxRecDepth 20000 in
theorem gX7_tandemVerdict_X0_capacityAt : GoodIn wsX7_tandemVerdict (wsV RX7 107 RX0 yX0_capacityAt wsX0_capacityAt) := goodIn_app (goodIn_of _ (by decide +kernel)) ggX7_tandemVerdict_X0_capacityAt
theorem dX7_tandemVerdict_0 : decode cX7_tandemVerdict 0 = .ok (.aload_n 1, 1) := by decide +kernel
theorem dX7_tandemVerdict_1 : decode cX7_tandemVerdict 1 = .ok (.getfield 79, 3) := by decide +kernel
theorem dX7_tandemVerdict_4 : decode cX7_tandemVerdict 4 = .ok (.ifCond .eq 10, 3) := by decide +kernel
theorem dX7_tandemVerdict_7 : decode cX7_tandemVerdict 7 = .ok (.aload_n 3, 1) := by decide +kernel
theorem dX7_tandemVerdict_8 : decode cX7_tandemVerdict 8 = .ok (.getfield 79, 3) := by decide +kernel
theorem dX7_tandemVerdict_11 : decode cX7_tandemVerdict 11 = .ok (.ifCond .ne 5, 3) := by decide +kernel
theorem dX7_tandemVerdict_14 : decode cX7_tandemVerdict 14 = .ok (.iconst 1, 1) := by decide +kernel
theorem dX7_tandemVerdict_15 : decode cX7_tandemVerdict 15 = .ok (.ireturn, 1) := by decide +kernel
theorem dX7_tandemVerdict_16 : decode cX7_tandemVerdict 16 = .ok (.aload_n 1, 1) := by decide +kernel
theorem dX7_tandemVerdict_17 : decode cX7_tandemVerdict 17 = .ok (.invokevirtual 241, 3) := by decide +kernel
theorem dX7_tandemVerdict_20 : decode cX7_tandemVerdict 20 = .ok (.ifCond .ne 10, 3) := by decide +kernel
theorem dX7_tandemVerdict_23 : decode cX7_tandemVerdict 23 = .ok (.aload_n 3, 1) := by decide +kernel
theorem dX7_tandemVerdict_24 : decode cX7_tandemVerdict 24 = .ok (.invokevirtual 241, 3) := by decide +kernel
theorem dX7_tandemVerdict_27 : decode cX7_tandemVerdict 27 = .ok (.ifCond .eq 5, 3) := by decide +kernel
theorem dX7_tandemVerdict_30 : decode cX7_tandemVerdict 30 = .ok (.iconst 2, 1) := by decide +kernel
theorem dX7_tandemVerdict_31 : decode cX7_tandemVerdict 31 = .ok (.ireturn, 1) := by decide +kernel
theorem dX7_tandemVerdict_32 : decode cX7_tandemVerdict 32 = .ok (.iload_n 2, 1) := by decide +kernel
theorem dX7_tandemVerdict_33 : decode cX7_tandemVerdict 33 = .ok (.aload_n 1, 1) := by decide +kernel
theorem dX7_tandemVerdict_34 : decode cX7_tandemVerdict 34 = .ok (.aload_n 1, 1) := by decide +kernel
theorem dX7_tandemVerdict_35 : decode cX7_tandemVerdict 35 = .ok (.getfield 72, 3) := by decide +kernel
theorem dX7_tandemVerdict_38 : decode cX7_tandemVerdict 38 = .ok (.aload_n 0, 1) := by decide +kernel
theorem dX7_tandemVerdict_39 : decode cX7_tandemVerdict 39 = .ok (.getfield 10, 3) := by decide +kernel
theorem dX7_tandemVerdict_42 : decode cX7_tandemVerdict 42 = .ok (.getfield 104, 3) := by decide +kernel
theorem dX7_tandemVerdict_45 : decode cX7_tandemVerdict 45 = .ok (.invokevirtual 107, 3) := by decide +kernel
theorem dX7_tandemVerdict_48 : decode cX7_tandemVerdict 48 = .ok (.if_icmp .gt 23, 3) := by decide +kernel
theorem dX7_tandemVerdict_51 : decode cX7_tandemVerdict 51 = .ok (.iload 4, 2) := by decide +kernel
theorem dX7_tandemVerdict_53 : decode cX7_tandemVerdict 53 = .ok (.aload_n 3, 1) := by decide +kernel
theorem dX7_tandemVerdict_54 : decode cX7_tandemVerdict 54 = .ok (.aload_n 3, 1) := by decide +kernel
theorem dX7_tandemVerdict_55 : decode cX7_tandemVerdict 55 = .ok (.getfield 72, 3) := by decide +kernel
theorem dX7_tandemVerdict_58 : decode cX7_tandemVerdict 58 = .ok (.aload_n 0, 1) := by decide +kernel
theorem dX7_tandemVerdict_59 : decode cX7_tandemVerdict 59 = .ok (.getfield 10, 3) := by decide +kernel
theorem dX7_tandemVerdict_62 : decode cX7_tandemVerdict 62 = .ok (.getfield 104, 3) := by decide +kernel
theorem dX7_tandemVerdict_65 : decode cX7_tandemVerdict 65 = .ok (.invokevirtual 107, 3) := by decide +kernel
theorem dX7_tandemVerdict_68 : decode cX7_tandemVerdict 68 = .ok (.if_icmp .le 7, 3) := by decide +kernel
theorem dX7_tandemVerdict_71 : decode cX7_tandemVerdict 71 = .ok (.iconst 1, 1) := by decide +kernel
theorem dX7_tandemVerdict_72 : decode cX7_tandemVerdict 72 = .ok (.goto 4, 3) := by decide +kernel
theorem dX7_tandemVerdict_75 : decode cX7_tandemVerdict 75 = .ok (.iconst 0, 1) := by decide +kernel
theorem dX7_tandemVerdict_76 : decode cX7_tandemVerdict 76 = .ok (.istore 5, 2) := by decide +kernel
theorem dX7_tandemVerdict_78 : decode cX7_tandemVerdict 78 = .ok (.iload 5, 2) := by decide +kernel
theorem dX7_tandemVerdict_80 : decode cX7_tandemVerdict 80 = .ok (.ifCond .eq 7, 3) := by decide +kernel
theorem dX7_tandemVerdict_83 : decode cX7_tandemVerdict 83 = .ok (.iconst 3, 1) := by decide +kernel
theorem dX7_tandemVerdict_84 : decode cX7_tandemVerdict 84 = .ok (.goto 4, 3) := by decide +kernel
theorem dX7_tandemVerdict_87 : decode cX7_tandemVerdict 87 = .ok (.iconst 0, 1) := by decide +kernel
theorem dX7_tandemVerdict_88 : decode cX7_tandemVerdict 88 = .ok (.ireturn, 1) := by decide +kernel
theorem dX7_tenthRoundedUp_0 : decode cX7_tenthRoundedUp 0 = .ok (.iload_n 0, 1) := by decide +kernel
theorem dX7_tenthRoundedUp_1 : decode cX7_tenthRoundedUp 1 = .ok (.bipush 9, 2) := by decide +kernel
theorem dX7_tenthRoundedUp_3 : decode cX7_tenthRoundedUp 3 = .ok (.iadd, 1) := by decide +kernel
theorem dX7_tenthRoundedUp_4 : decode cX7_tenthRoundedUp 4 = .ok (.bipush 10, 2) := by decide +kernel
theorem dX7_tenthRoundedUp_6 : decode cX7_tenthRoundedUp 6 = .ok (.idiv, 1) := by decide +kernel
theorem dX7_tenthRoundedUp_7 : decode cX7_tenthRoundedUp 7 = .ok (.ireturn, 1) := by decide +kernel
set_option maxRecDepth 20000 in
theorem ggX7_shutZones_X5_hour : GoodIn wsX7_shutZones wsX5_hour := goodIn_r _ [8, 9, 26, 27, 28, 29, 30, 31, 32] (by decide +kernel) (by decide +kernel)
set_option maxRecDepth 20000 in
theorem gX7_shutZones_X5_hour : GoodIn wsX7_shutZones (wsV RX7 270 RX5 yX5_hour wsX5_hour) := goodIn_app (goodIn_of _ (by decide +kernel)) ggX7_shutZones_X5_hour
set_option maxRecDepth 20000 in
theorem ggX7_shutZones_X6_isShutAt : GoodIn wsX7_shutZones wsX6_isShutAt := goodIn_r _ [14, 15, 16, 33, 34, 35, 36, 37] (by decide +kernel) (by decide +kernel)
set_option maxRecDepth 20000 in
theorem gX7_shutZones_X6_isShutAt : GoodIn wsX7_shutZones (wsV RX7 386 RX6 yX6_isShutAt wsX6_isShutAt) := goodIn_app (goodIn_of _ (by decide +kernel)) ggX7_shutZones_X6_isShutAt
theorem dX7_shutZones_0 : decode cX7_shutZones 0 = .ok (.aload_n 0, 1) := by decide +kernel
theorem dX7_shutZones_1 : decode cX7_shutZones 1 = .ok (.getfield 10, 3) := by decide +kernel
theorem dX7_shutZones_4 : decode cX7_shutZones 4 = .ok (.invokevirtual 270, 3) := by decide +kernel
theorem dX7_shutZones_7 : decode cX7_shutZones 7 = .ok (.istore_n 1, 1) := by decide +kernel
theorem dX7_shutZones_8 : decode cX7_shutZones 8 = .ok (.iconst 0, 1) := by decide +kernel
theorem dX7_shutZones_9 : decode cX7_shutZones 9 = .ok (.istore_n 2, 1) := by decide +kernel
theorem dX7_shutZones_10 : decode cX7_shutZones 10 = .ok (.iconst 0, 1) := by decide +kernel
theorem dX7_shutZones_11 : decode cX7_shutZones 11 = .ok (.istore_n 3, 1) := by decide +kernel
theorem dX7_shutZones_12 : decode cX7_shutZones 12 = .ok (.iload_n 3, 1) := by decide +kernel
theorem dX7_shutZones_13 : decode cX7_shutZones 13 = .ok (.aload_n 0, 1) := by decide +kernel
theorem dX7_shutZones_14 : decode cX7_shutZones 14 = .ok (.getfield 117, 3) := by decide +kernel
theorem dX7_shutZones_17 : decode cX7_shutZones 17 = .ok (.if_icmp .ge 25, 3) := by decide +kernel
theorem dX7_shutZones_20 : decode cX7_shutZones 20 = .ok (.aload_n 0, 1) := by decide +kernel
theorem dX7_shutZones_21 : decode cX7_shutZones 21 = .ok (.getfield 27, 3) := by decide +kernel
theorem dX7_shutZones_24 : decode cX7_shutZones 24 = .ok (.iload_n 3, 1) := by decide +kernel
theorem dX7_shutZones_25 : decode cX7_shutZones 25 = .ok (.aaload, 1) := by decide +kernel
theorem dX7_shutZones_26 : decode cX7_shutZones 26 = .ok (.iload_n 1, 1) := by decide +kernel
theorem dX7_shutZones_27 : decode cX7_shutZones 27 = .ok (.invokevirtual 386, 3) := by decide +kernel
theorem dX7_shutZones_30 : decode cX7_shutZones 30 = .ok (.ifCond .eq 6, 3) := by decide +kernel
theorem dX7_shutZones_33 : decode cX7_shutZones 33 = .ok (.iinc 2 1, 3) := by decide +kernel
theorem dX7_shutZones_36 : decode cX7_shutZones 36 = .ok (.iinc 3 1, 3) := by decide +kernel
theorem dX7_shutZones_39 : decode cX7_shutZones 39 = .ok (.goto (-27), 3) := by decide +kernel
theorem dX7_shutZones_42 : decode cX7_shutZones 42 = .ok (.iload_n 2, 1) := by decide +kernel
theorem dX7_shutZones_43 : decode cX7_shutZones 43 = .ok (.ireturn, 1) := by decide +kernel
set_option maxRecDepth 20000 in
theorem ggX7_isSoundCrane_X5_isStorm : GoodIn wsX7_isSoundCrane wsX5_isStorm := goodIn_r _ [10, 11, 37, 38, 39, 40, 41, 42, 43] (by decide +kernel) (by decide +kernel)
set_option maxRecDepth 20000 in
theorem gX7_isSoundCrane_X5_isStorm : GoodIn wsX7_isSoundCrane (wsV RX7 75 RX5 yX5_isStorm wsX5_isStorm) := goodIn_app (goodIn_of _ (by decide +kernel)) ggX7_isSoundCrane_X5_isStorm
set_option maxRecDepth 20000 in
theorem ggX7_isSoundCrane_X7_isOutside : GoodIn wsX7_isSoundCrane wsX7_isOutside := goodIn_r _ [15] (by decide +kernel) (by decide +kernel)
set_option maxRecDepth 20000 in
theorem gX7_isSoundCrane_X7_isOutside : GoodIn wsX7_isSoundCrane (va_wsS RX7 46 yX7_isOutside wsX7_isOutside) := goodIn_app (goodIn_of _ (by decide +kernel)) ggX7_isSoundCrane_X7_isOutside
theorem dX7_isSoundCrane_0 : decode cX7_isSoundCrane 0 = .ok (.aload_n 1, 1) := by decide +kernel
theorem dX7_isSoundCrane_1 : decode cX7_isSoundCrane 1 = .ok (.getfield 79, 3) := by decide +kernel
theorem dX7_isSoundCrane_4 : decode cX7_isSoundCrane 4 = .ok (.ifCond .eq 13, 3) := by decide +kernel
theorem dX7_isSoundCrane_7 : decode cX7_isSoundCrane 7 = .ok (.aload_n 0, 1) := by decide +kernel
theorem dX7_isSoundCrane_8 : decode cX7_isSoundCrane 8 = .ok (.getfield 10, 3) := by decide +kernel
theorem dX7_isSoundCrane_11 : decode cX7_isSoundCrane 11 = .ok (.invokevirtual 75, 3) := by decide +kernel
theorem dX7_isSoundCrane_14 : decode cX7_isSoundCrane 14 = .ok (.ifCond .ne 30, 3) := by decide +kernel
theorem dX7_isSoundCrane_17 : decode cX7_isSoundCrane 17 = .ok (.aload_n 1, 1) := by decide +kernel
theorem dX7_isSoundCrane_18 : decode cX7_isSoundCrane 18 = .ok (.getfield 72, 3) := by decide +kernel
theorem dX7_isSoundCrane_21 : decode cX7_isSoundCrane 21 = .ok (.bipush 10, 2) := by decide +kernel
theorem dX7_isSoundCrane_23 : decode cX7_isSoundCrane 23 = .ok (.aload_n 1, 1) := by decide +kernel
theorem dX7_isSoundCrane_24 : decode cX7_isSoundCrane 24 = .ok (.getfield 66, 3) := by decide +kernel
theorem dX7_isSoundCrane_27 : decode cX7_isSoundCrane 27 = .ok (.invokestatic 46, 3) := by decide +kernel
theorem dX7_isSoundCrane_30 : decode cX7_isSoundCrane 30 = .ok (.ifCond .ne 14, 3) := by decide +kernel
theorem dX7_isSoundCrane_33 : decode cX7_isSoundCrane 33 = .ok (.aload_n 1, 1) := by decide +kernel
theorem dX7_isSoundCrane_34 : decode cX7_isSoundCrane 34 = .ok (.getfield 156, 3) := by decide +kernel
theorem dX7_isSoundCrane_37 : decode cX7_isSoundCrane 37 = .ok (.ifCond .lt 7, 3) := by decide +kernel
theorem dX7_isSoundCrane_40 : decode cX7_isSoundCrane 40 = .ok (.iconst 1, 1) := by decide +kernel
theorem dX7_isSoundCrane_41 : decode cX7_isSoundCrane 41 = .ok (.goto 4, 3) := by decide +kernel
theorem dX7_isSoundCrane_44 : decode cX7_isSoundCrane 44 = .ok (.iconst 0, 1) := by decide +kernel
theorem dX7_isSoundCrane_45 : decode cX7_isSoundCrane 45 = .ok (.ireturn, 1) := by decide +kernel
set_option maxRecDepth 20000 in
theorem ggJ5_init_d00df_J2_newBytesFor_77867 : GoodIn wsJ5_init_d00df wsJ2_newBytesFor_77867 := goodIn_r _ [11, 5, 12, 13, 10, 14, 15] (by decide +kernel) (by decide +kernel)
set_option maxRecDepth 20000 in
theorem gJ5_init_d00df_J2_newBytesFor_77867 : GoodIn wsJ5_init_d00df (va_wsS RJ5 26 yJ2_newBytesFor_77867 wsJ2_newBytesFor_77867) := goodIn_app (goodIn_of _ (by decide +kernel)) ggJ5_init_d00df_J2_newBytesFor_77867
theorem dJ5_init_d00df_0 : decode cJ5_init_d00df 0 = .ok (.aload_n 0, 1) := by decide +kernel
theorem dJ5_init_d00df_1 : decode cJ5_init_d00df 1 = .ok (.invokespecial 3, 3) := by decide +kernel
theorem dJ5_init_d00df_4 : decode cJ5_init_d00df 4 = .ok (.getstatic 18, 3) := by decide +kernel
theorem dJ5_init_d00df_7 : decode cJ5_init_d00df 7 = .ok (.ifCond .eq 18, 3) := by decide +kernel
theorem dJ5_init_d00df_10 : decode cJ5_init_d00df 10 = .ok (.aload_n 0, 1) := by decide +kernel
theorem dJ5_init_d00df_11 : decode cJ5_init_d00df 11 = .ok (.iload_n 1, 1) := by decide +kernel
theorem dJ5_init_d00df_12 : decode cJ5_init_d00df 12 = .ok (.newarray .byte, 2) := by decide +kernel
theorem dJ5_init_d00df_14 : decode cJ5_init_d00df 14 = .ok (.putfield 15, 3) := by decide +kernel
theorem dJ5_init_d00df_17 : decode cJ5_init_d00df 17 = .ok (.aload_n 0, 1) := by decide +kernel
theorem dJ5_init_d00df_18 : decode cJ5_init_d00df 18 = .ok (.iconst 0, 1) := by decide +kernel
theorem dJ5_init_d00df_19 : decode cJ5_init_d00df 19 = .ok (.putfield 22, 3) := by decide +kernel
theorem dJ5_init_d00df_22 : decode cJ5_init_d00df 22 = .ok (.goto 16, 3) := by decide +kernel
theorem dJ5_init_d00df_25 : decode cJ5_init_d00df 25 = .ok (.aload_n 0, 1) := by decide +kernel
theorem dJ5_init_d00df_26 : decode cJ5_init_d00df 26 = .ok (.iload_n 1, 1) := by decide +kernel
theorem dJ5_init_d00df_27 : decode cJ5_init_d00df 27 = .ok (.invokestatic 26, 3) := by decide +kernel
theorem dJ5_init_d00df_30 : decode cJ5_init_d00df 30 = .ok (.putfield 15, 3) := by decide +kernel
theorem dJ5_init_d00df_33 : decode cJ5_init_d00df 33 = .ok (.aload_n 0, 1) := by decide +kernel
theorem dJ5_init_d00df_34 : decode cJ5_init_d00df 34 = .ok (.iconst 1, 1) := by decide +kernel
theorem dJ5_init_d00df_35 : decode cJ5_init_d00df 35 = .ok (.putfield 22, 3) := by decide +kernel
theorem dJ5_init_d00df_38 : decode cJ5_init_d00df 38 = .ok (.return_, 1) := by decide +kernel
theorem dJ5_length_8abf5_0 : decode cJ5_length_8abf5 0 = .ok (.aload_n 0, 1) := by decide +kernel
