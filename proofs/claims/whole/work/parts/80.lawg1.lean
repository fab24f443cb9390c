set_option maxRecDepth 20000 in
theorem ggL_element_X11_element : GoodIn wsL_element wsX11_element := goodIn_ca (goodIn_ca (goodIn_r _ [7, 8, 9, 10, 11, 12, 13, 14, 15, 6, 16, 17, 18, 19, 20, 21, 22, 23, 24, 25, 26, 27, 28, 29, 30, 31, 32, 33, 34, 35, 36, 37, 38, 39, 40, 41, 42, 43, 44, 45, 46, 47] rfl (by decide +kernel)) (goodIn_sub (fun _ h => List.mem_cons_of_mem _ (List.mem_append_left _ (List.mem_append_right _ h))) (by decide +kernel))) (goodIn_sub (fun _ h => List.mem_cons_of_mem _ (List.mem_append_right _ h)) (by decide +kernel))
set_option maxRecDepth 20000 in
theorem gL_element_X11_element : GoodIn wsL_element (wsV RL 7 RX11 yX11_element wsX11_element) := goodIn_app (goodIn_of _ (by decide +kernel)) ggL_element_X11_element
theorem dL_element_0 : decode cL_element 0 = .ok (.aload_n 3, 1) := by decide +kernel
theorem dL_element_1 : decode cL_element 1 = .ok (.iconst 0, 1) := by decide +kernel
theorem dL_element_2 : decode cL_element 2 = .ok (.aload_n 0, 1) := by decide +kernel
theorem dL_element_3 : decode cL_element 3 = .ok (.iload_n 1, 1) := by decide +kernel
theorem dL_element_4 : decode cL_element 4 = .ok (.iload_n 2, 1) := by decide +kernel
theorem dL_element_5 : decode cL_element 5 = .ok (.invokevirtual 7, 3) := by decide +kernel
theorem dL_element_8 : decode cL_element 8 = .ok (.lastore, 1) := by decide +kernel
theorem dL_element_9 : decode cL_element 9 = .ok (.goto 11, 3) := by decide +kernel
theorem dL_element_12 : decode cL_element 12 = .ok (.astore 4, 2) := by decide +kernel
theorem dL_element_14 : decode cL_element 14 = .ok (.iconst 1, 1) := by decide +kernel
theorem dL_element_15 : decode cL_element 15 = .ok (.ireturn, 1) := by decide +kernel
theorem dL_element_16 : decode cL_element 16 = .ok (.astore 4, 2) := by decide +kernel
theorem dL_element_18 : decode cL_element 18 = .ok (.iconst 2, 1) := by decide +kernel
theorem dL_element_19 : decode cL_element 19 = .ok (.ireturn, 1) := by decide +kernel
theorem dL_element_20 : decode cL_element 20 = .ok (.iconst 0, 1) := by decide +kernel
theorem dL_element_21 : decode cL_element 21 = .ok (.ireturn, 1) := by decide +kernel
set_option maxRecDepth 20000 in
theorem gwX11_init : wsX11_init.all goodWord = true := by decide +kernel
set_option maxRecDepth 20000 in
theorem ggL_law_X11_init : GoodIn wsL_law wsX11_init := goodIn_r _ [9, 10, 11, 12, 13, 14, 15, 16, 17, 18, 19, 20, 21, 22, 23, 24, 25, 26, 27, 28, 29, 30, 31, 32, 33, 34, 35, 36, 37, 38, 39, 40, 41, 42, 43, 44, 45, 46, 47, 48, 49, 50, 51, 52, 53, 54, 55, 56, 57, 58, 59, 60, 61, 62, 63, 64, 65, 66, 67, 68, 69, 70, 71, 72, 73, 74, 75, 76, 77, 78, 79, 80, 81, 82, 83, 84, 85, 86, 87, 88, 89, 90, 91, 92, 93, 94, 95, 96, 97, 98, 99, 100, 101, 102, 103, 104, 105, 1223, 1224, 1225, 1226, 1227, 1228, 1229, 1230, 1231, 1232, 1233, 1234, 1190, 1191, 1192, 1193, 1194, 1195, 1196, 1197, 1198, 1199, 1200, 1235, 1236, 1237, 1238, 1239, 1240, 1241, 1242, 1243, 1244, 1245, 1246, 1247, 1248, 1249, 1250, 1251, 1252, 1253, 1254, 1255, 1256, 1257, 1258, 1259, 1260, 1261, 1262, 1263, 1264] rfl gwX11_init
set_option maxRecDepth 20000 in
theorem gL_law_X11_init : GoodIn wsL_law (wsX11_init) := ggL_law_X11_init
set_option maxRecDepth 20000 in
theorem gwX12_init : wsX12_init.all goodWord = true := by decide +kernel
set_option maxRecDepth 20000 in
theorem ggL_law_X12_init : GoodIn wsL_law wsX12_init := goodIn_r _ [108, 109, 11, 12, 46, 110, 111, 112, 113, 114, 115, 116, 117, 118, 119, 120, 121, 122, 1201, 1202, 1203, 1204, 1205, 1206, 1207, 1208, 1209, 1210, 1211, 1212, 1213, 1214, 1215, 1216, 1217, 1218, 1219, 1220, 1221, 1222] rfl gwX12_init
set_option maxRecDepth 20000 in
theorem gL_law_X12_init : GoodIn wsL_law (wsX12_init) := ggL_law_X12_init
set_option maxRecDepth 20000 in
theorem gwX11_text : wsX11_text.all goodWord = true := by decide +kernel
set_option maxRecDepth 20000 in
theorem ggL_law_X11_text : GoodIn wsL_law wsX11_text := goodIn_r _ [126, 39, 127, 36, 35, 128, 31, 129, 130, 131, 2, 132, 133, 134, 135, 136, 137, 138, 139, 140, 141, 142, 143, 144, 145, 146, 147, 148, 149, 150, 151, 41, 152, 98, 153, 154, 155, 156, 157, 158, 34, 159, 160, 161, 81, 162, 163, 164, 85, 165, 92, 166, 167, 168, 169, 170, 171, 172, 173, 174, 175, 90, 91, 176, 177, 178, 179, 180, 181, 182, 183, 184, 185, 186, 187, 188, 189, 190, 191, 192, 193, 194, 195, 196, 197, 198, 199, 200, 201, 202, 203, 204, 205, 206, 207, 208, 209, 210, 211, 212, 213, 214, 215, 216, 217, 218, 219, 220, 221, 222, 223, 224, 225, 226, 227, 228, 229, 230, 231, 232, 233, 234, 235, 236, 237, 238, 239, 240, 241, 242, 243, 244, 245, 246, 247, 248, 82, 83, 249, 250, 251, 252, 253, 254, 255, 256, 257, 258, 259, 15, 260, 261, 262, 263, 264, 265, 266, 267, 268, 269, 270, 271, 272, 273, 30, 274, 275, 276, 277, 278, 279, 280, 281, 282, 283, 284, 285, 286, 287, 288, 289, 290, 291, 292, 293, 294, 295, 296, 297, 298, 299, 300, 301, 302, 303, 304, 305, 306, 307, 308, 18, 309, 310, 311, 312, 313, 314, 315, 316, 317, 318, 319, 320, 27, 321, 322, 323, 324, 325, 326, 327, 24, 328, 329, 330, 331, 332, 333, 334, 335, 336, 337, 338, 339, 340, 341, 342, 343, 344, 345, 346, 347, 348, 349, 350, 351, 352, 353, 21, 354, 355, 356, 357, 358, 359, 360, 361, 1190, 1191, 1192, 1193, 1194, 1195, 1196, 1197, 1198, 1199, 1200, 1240, 1241, 1242, 1243, 1244, 1245, 1235, 1236, 1237, 1238, 1239, 1250, 1251, 1252, 1253, 1254, 1255, 1256, 1257, 1258, 1259, 1260, 1261, 1262, 1263, 1264] rfl gwX11_text
set_option maxRecDepth 20000 in
theorem gL_law_X11_text : GoodIn wsL_law (wsV RL 21 RX11 yX11_text wsX11_text) := goodIn_app (goodIn_r _ [123, 124, 125, 2] rfl (by decide +kernel)) ggL_law_X11_text
set_option maxRecDepth 20000 in
theorem gwX12_text : wsX12_text.all goodWord = true := by decide +kernel
set_option maxRecDepth 20000 in
theorem ggL_law_X12_text : GoodIn wsL_law wsX12_text := goodIn_r _ [365, 366, 367, 114, 118, 368, 369, 5, 370, 371, 372, 373, 374, 375, 376, 377, 116, 117, 378, 379, 380, 381, 382, 383, 384, 385, 110, 111, 112, 386, 387, 388, 389, 390, 391, 392, 393, 394, 395, 119, 396, 397, 398, 399, 113, 400, 401, 402, 403, 404, 405, 406, 407, 408, 409, 410, 411, 412, 413, 414, 415, 416, 417, 418, 419, 420, 421, 422, 423, 424, 425, 426, 427, 428, 429, 430, 431, 432, 433, 434, 435, 436, 437, 438, 439, 440, 441, 277, 278, 279, 442, 443, 444, 445, 446, 447, 448, 449, 450, 451, 452, 453, 454, 455, 456, 457, 458, 459, 460, 461, 462, 312, 313, 463, 464, 465, 466, 467, 468, 469, 470, 471, 472, 473, 474, 475, 476, 477, 478, 479, 480, 481, 482, 483, 484, 485, 486, 487, 488, 489, 490, 1201, 1202, 1203, 1204, 1205, 1206, 1207, 1208, 1209, 1210, 1211, 1212, 1213, 1214, 1215, 1216, 1217, 1218, 1219, 1220, 1221, 1222] rfl gwX12_text
set_option maxRecDepth 20000 in
theorem gL_law_X12_text : GoodIn wsL_law (wsV RL 25 RX12 yX12_text wsX12_text) := goodIn_app (goodIn_r _ [362, 363, 364, 5] rfl (by decide +kernel)) ggL_law_X12_text
set_option maxRecDepth 20000 in
theorem gwX11_server : wsX11_server.all goodWord = true := by decide +kernel
set_option maxRecDepth 20000 in
theorem ggL_law_X11_server : GoodIn wsL_law wsX11_server := goodIn_r _ [494, 35, 495, 496, 497, 498, 499, 500, 501, 502, 503, 504, 505, 506, 507, 508, 221, 222, 34, 223, 160, 142, 2, 143, 509, 300, 301, 302, 81, 253, 303, 510, 305, 306, 307, 308, 18, 309, 310, 311, 312, 278, 313, 314, 277, 279, 315, 511, 317, 318, 15, 319, 320, 27, 321, 322, 323, 324, 325, 326, 327, 24, 328, 329, 330, 331, 332, 333, 334, 1190, 1191, 1192, 1193, 1194, 1195, 1196, 1197, 1198, 1199, 1200, 1235, 1236, 1237, 1238, 1239, 1250, 1251, 1252, 1253, 1254, 1255, 1256, 1257, 1258, 1259, 1260, 1261, 1262, 1263, 1264, 1225, 1226, 1223, 1224, 1231, 1232, 1227, 1228, 1229, 1230, 1233, 1234] rfl gwX11_server
set_option maxRecDepth 20000 in
theorem gL_law_X11_server : GoodIn wsL_law (wsV RL 26 RX11 yX11_server wsX11_server) := goodIn_app (goodIn_r _ [491, 492, 493, 2] rfl (by decide +kernel)) ggL_law_X11_server
set_option maxRecDepth 20000 in
theorem gwX12_server : wsX12_server.all goodWord = true := by decide +kernel
set_option maxRecDepth 20000 in
theorem ggL_law_X12_server : GoodIn wsL_law wsX12_server := goodIn_r _ [515, 110, 415, 416, 417, 5, 418, 387, 371, 372, 373, 471, 472, 473, 474, 458, 459, 460, 461, 462, 312, 278, 313, 463, 464, 465, 466, 441, 277, 279, 467, 468, 469, 470, 1201, 1202, 1203, 1204, 1205, 1206, 1207, 1208, 1209, 1210, 1211, 1212, 1213, 1214, 1215, 1216, 1217, 1218, 1219, 1220, 1221, 1222] rfl gwX12_server
set_option maxRecDepth 20000 in
theorem gL_law_X12_server : GoodIn wsL_law (wsV RL 30 RX12 yX12_server wsX12_server) := goodIn_app (goodIn_r _ [512, 513, 514, 5] rfl (by decide +kernel)) ggL_law_X12_server
set_option maxRecDepth 20000 in
theorem gwX11_job : wsX11_job.all goodWord = true := by decide +kernel
set_option maxRecDepth 20000 in
theorem ggL_law_X11_job : GoodIn wsL_law wsX11_job := goodIn_r _ [519, 35, 495, 505, 520, 521, 522, 523, 508, 221, 222, 34, 223, 160, 142, 2, 143, 141, 1190, 1191, 1192, 1193, 1194, 1195, 1196, 1197, 1198, 1199, 1200, 1235, 1236, 1237, 1238, 1239, 1250, 1251, 1252, 1253, 1254, 1255, 1256, 1257, 1258, 1259, 1260, 1261, 1262, 1263, 1264] rfl gwX11_job
set_option maxRecDepth 20000 in
theorem gL_law_X11_job : GoodIn wsL_law (wsV RL 31 RX11 yX11_job wsX11_job) := goodIn_app (goodIn_r _ [516, 517, 518, 2] rfl (by decide +kernel)) ggL_law_X11_job
set_option maxRecDepth 20000 in
theorem gwX12_job : wsX12_job.all goodWord = true := by decide +kernel
set_option maxRecDepth 20000 in
theorem ggL_law_X12_job : GoodIn wsL_law wsX12_job := goodIn_r _ [527, 110, 111, 112, 415, 416, 417, 5, 418, 387, 371, 372, 373, 1201, 1202, 1203, 1204, 1205, 1206, 1207, 1208, 1209, 1210, 1211, 1212, 1213, 1214, 1215, 1216, 1217, 1218, 1219, 1220, 1221, 1222] rfl gwX12_job
set_option maxRecDepth 20000 in
theorem gL_law_X12_job : GoodIn wsL_law (wsV RL 35 RX12 yX12_job wsX12_job) := goodIn_app (goodIn_r _ [524, 525, 526, 5] rfl (by decide +kernel)) ggL_law_X12_job
set_option maxRecDepth 20000 in
theorem gwX11_comes : wsX11_comes.all goodWord = true := by decide +kernel
set_option maxRecDepth 20000 in
theorem ggL_law_X11_comes : GoodIn wsL_law wsX11_comes := goodIn_r _ [531, 35, 532, 39, 533, 534, 535, 191, 2, 192, 141, 142, 143, 536, 537, 538, 539, 133, 134, 135, 136, 137, 138, 139, 140, 540, 194, 195, 34, 196, 160, 81, 197, 198, 199, 85, 200, 92, 166, 170, 171, 173, 174, 201, 202, 203, 204, 175, 176, 172, 205, 206, 207, 208, 167, 168, 169, 209, 210, 1190, 1191, 1192, 1193, 1194, 1195, 1196, 1197, 1198, 1199, 1200, 1235, 1236, 1237, 1238, 1239, 1240, 1241, 1242, 1243, 1244, 1245, 1250, 1251, 1252, 1253, 1254, 1255, 1256, 1257, 1258, 1259, 1260, 1261, 1262, 1263, 1264] rfl gwX11_comes
set_option maxRecDepth 20000 in
theorem gL_law_X11_comes : GoodIn wsL_law (wsV RL 36 RX11 yX11_comes wsX11_comes) := goodIn_app (goodIn_r _ [528, 529, 530, 2] rfl (by decide +kernel)) ggL_law_X11_comes
set_option maxRecDepth 20000 in
theorem gwX12_comes : wsX12_comes.all goodWord = true := by decide +kernel
set_option maxRecDepth 20000 in
theorem ggL_law_X12_comes : GoodIn wsL_law wsX12_comes := goodIn_r _ [544, 387, 117, 118, 404, 405, 5, 406, 371, 372, 373, 368, 369, 370, 545, 546, 547, 548, 116, 407, 408, 409, 410, 110, 1201, 1202, 1203, 1204, 1205, 1206, 1207, 1208, 1209, 1210, 1211, 1212, 1213, 1214, 1215, 1216, 1217, 1218, 1219, 1220, 1221, 1222] rfl gwX12_comes
set_option maxRecDepth 20000 in
theorem gL_law_X12_comes : GoodIn wsL_law (wsV RL 39 RX12 yX12_comes wsX12_comes) := goodIn_app (goodIn_r _ [541, 542, 543, 5] rfl (by decide +kernel)) ggL_law_X12_comes
set_option maxRecDepth 20000 in
theorem gwX11_sends : wsX11_sends.all goodWord = true := by decide +kernel
set_option maxRecDepth 20000 in
theorem ggL_law_X11_sends : GoodIn wsL_law wsX11_sends := goodIn_r _ [552, 35, 495, 553, 505, 554, 217, 218, 34, 219, 81, 220, 221, 222, 223, 160, 142, 2, 143, 224, 225, 226, 85, 227, 175, 555, 229, 230, 231, 90, 91, 172, 170, 167, 168, 171, 177, 232, 233, 234, 235, 236, 1190, 1191, 1192, 1193, 1194, 1195, 1196, 1197, 1198, 1199, 1200, 1235, 1236, 1237, 1238, 1239, 1250, 1251, 1252, 1253, 1254, 1255, 1256, 1257, 1258, 1259, 1260, 1261, 1262, 1263, 1264] rfl gwX11_sends
set_option maxRecDepth 20000 in
theorem gL_law_X11_sends : GoodIn wsL_law (wsV RL 40 RX11 yX11_sends wsX11_sends) := goodIn_app (goodIn_r _ [549, 550, 551, 2] rfl (by decide +kernel)) ggL_law_X11_sends
set_option maxRecDepth 20000 in
theorem gwX12_sends : wsX12_sends.all goodWord = true := by decide +kernel
set_option maxRecDepth 20000 in
theorem ggL_law_X12_sends : GoodIn wsL_law wsX12_sends := goodIn_r _ [559, 110, 415, 416, 417, 5, 418, 387, 371, 372, 373, 419, 420, 421, 422, 111, 112, 386, 423, 424, 425, 426, 1201, 1202, 1203, 1204, 1205, 1206, 1207, 1208, 1209, 1210, 1211, 1212, 1213, 1214, 1215, 1216, 1217, 1218, 1219, 1220, 1221, 1222] rfl gwX12_sends
set_option maxRecDepth 20000 in
theorem gL_law_X12_sends : GoodIn wsL_law (wsV RL 43 RX12 yX12_sends wsX12_sends) := goodIn_app (goodIn_r _ [556, 557, 558, 5] rfl (by decide +kernel)) ggL_law_X12_sends
set_option maxRecDepth 20000 in
theorem gwX11_drops : wsX11_drops.all goodWord = true := by decide +kernel
set_option maxRecDepth 20000 in
theorem ggL_law_X11_drops : GoodIn wsL_law wsX11_drops := goodIn_r _ [563, 35, 495, 505, 508, 221, 222, 34, 223, 160, 142, 2, 143, 564, 202, 203, 85, 204, 175, 176, 172, 1190, 1191, 1192, 1193, 1194, 1195, 1196, 1197, 1198, 1199, 1200, 1235, 1236, 1237, 1238, 1239, 1250, 1251, 1252, 1253, 1254, 1255, 1256, 1257, 1258, 1259, 1260, 1261, 1262, 1263, 1264] rfl gwX11_drops
set_option maxRecDepth 20000 in
theorem gL_law_X11_drops : GoodIn wsL_law (wsV RL 44 RX11 yX11_drops wsX11_drops) := goodIn_app (goodIn_r _ [560, 561, 562, 2] rfl (by decide +kernel)) ggL_law_X11_drops
set_option maxRecDepth 20000 in
theorem gwX12_drops : wsX12_drops.all goodWord = true := by decide +kernel
set_option maxRecDepth 20000 in
theorem ggL_law_X12_drops : GoodIn wsL_law wsX12_drops := goodIn_r _ [568, 415, 416, 417, 5, 418, 387, 371, 372, 373, 569, 570, 571, 572, 110, 1201, 1202, 1203, 1204, 1205, 1206, 1207, 1208, 1209, 1210, 1211, 1212, 1213, 1214, 1215, 1216, 1217, 1218, 1219, 1220, 1221, 1222] rfl gwX12_drops
set_option maxRecDepth 20000 in
theorem gL_law_X12_drops : GoodIn wsL_law (wsV RL 47 RX12 yX12_drops wsX12_drops) := goodIn_app (goodIn_r _ [565, 566, 567, 5] rfl (by decide +kernel)) ggL_law_X12_drops
set_option maxRecDepth 20000 in
theorem gwX11_ticks : wsX11_ticks.all goodWord = true := by decide +kernel
set_option maxRecDepth 20000 in
theorem ggL_law_X11_ticks : GoodIn wsL_law wsX11_ticks := goodIn_r _ [576, 35, 577, 238, 239, 34, 240, 161, 142, 2, 143, 578, 242, 243, 244, 245, 246, 247, 248, 82, 83, 249, 250, 251, 252, 160, 81, 253, 254, 255, 256, 257, 258, 259, 15, 260, 261, 262, 263, 264, 265, 266, 267, 268, 269, 270, 271, 272, 273, 30, 274, 275, 276, 277, 278, 279, 280, 234, 235, 85, 236, 170, 168, 167, 171, 281, 282, 283, 284, 285, 286, 287, 288, 289, 290, 291, 292, 293, 294, 295, 296, 297, 298, 175, 176, 91, 299, 300, 301, 302, 303, 304, 305, 306, 307, 308, 18, 309, 310, 311, 312, 313, 314, 315, 316, 317, 318, 319, 320, 27, 321, 322, 323, 324, 325, 326, 327, 24, 328, 329, 330, 331, 332, 333, 334, 335, 336, 337, 338, 90, 177, 173, 339, 340, 341, 342, 174, 172, 343, 344, 345, 346, 347, 348, 349, 350, 351, 352, 353, 21, 354, 355, 356, 357, 579, 580, 581, 582, 583, 584, 585, 586, 587, 1190, 1191, 1192, 1193, 1194, 1195, 1196, 1197, 1198, 1199, 1200, 1235, 1236, 1237, 1238, 1239, 1250, 1251, 1252, 1253, 1254, 1255, 1256, 1257, 1258, 1259, 1260, 1261, 1262, 1263, 1264] rfl gwX11_ticks
set_option maxRecDepth 20000 in
theorem gL_law_X11_ticks : GoodIn wsL_law (wsV RL 48 RX11 yX11_ticks wsX11_ticks) := goodIn_app (goodIn_r _ [573, 574, 575, 2] rfl (by decide +kernel)) ggL_law_X11_ticks
set_option maxRecDepth 20000 in
theorem gwX12_ticks : wsX12_ticks.all goodWord = true := by decide +kernel
set_option maxRecDepth 20000 in
theorem ggL_law_X12_ticks : GoodIn wsL_law wsX12_ticks := goodIn_r _ [591, 386, 371, 372, 5, 373, 431, 432, 433, 434, 435, 436, 437, 438, 439, 440, 112, 111, 110, 441, 277, 278, 279, 442, 443, 444, 445, 387, 446, 447, 448, 449, 423, 424, 425, 426, 450, 451, 452, 453, 454, 455, 456, 457, 458, 459, 460, 461, 462, 312, 313, 463, 464, 465, 466, 467, 468, 469, 470, 471, 472, 473, 474, 475, 476, 477, 478, 479, 480, 481, 482, 483, 484, 485, 486, 592, 593, 594, 595, 1201, 1202, 1203, 1204, 1205, 1206, 1207, 1208, 1209, 1210, 1211, 1212, 1213, 1214, 1215, 1216, 1217, 1218, 1219, 1220, 1221, 1222] rfl gwX12_ticks
set_option maxRecDepth 20000 in
theorem gL_law_X12_ticks : GoodIn wsL_law (wsV RL 51 RX12 yX12_ticks wsX12_ticks) := goodIn_app (goodIn_r _ [588, 589, 590, 5] rfl (by decide +kernel)) ggL_law_X12_ticks
set_option maxRecDepth 20000 in
theorem gwX11_then : wsX11_then.all goodWord = true := by decide +kernel
set_option maxRecDepth 20000 in
theorem ggL_law_X11_then : GoodIn wsL_law wsX11_then := goodIn_r _ [599, 35, 36, 495, 502, 503, 504, 506, 507, 508, 221, 222, 34, 223, 160, 142, 2, 143, 141, 156, 157, 158, 159, 161, 81, 162, 163, 164, 85, 165, 92, 166, 167, 168, 169, 170, 171, 172, 173, 174, 175, 90, 91, 176, 177, 578, 242, 243, 244, 245, 246, 247, 248, 82, 83, 249, 250, 251, 252, 253, 254, 255, 256, 257, 258, 259, 15, 260, 261, 262, 263, 264, 265, 266, 267, 268, 269, 270, 271, 272, 273, 30, 274, 275, 276, 277, 278, 279, 280, 234, 235, 236, 281, 282, 283, 284, 285, 286, 287, 288, 289, 290, 291, 292, 293, 294, 295, 296, 297, 298, 299, 300, 301, 302, 303, 304, 305, 306, 307, 308, 18, 309, 310, 311, 312, 313, 314, 315, 316, 317, 318, 319, 320, 27, 321, 322, 323, 324, 325, 326, 327, 24, 328, 329, 330, 331, 332, 333, 334, 335, 336, 337, 338, 339, 340, 341, 342, 343, 344, 345, 346, 347, 348, 349, 350, 351, 352, 353, 21, 354, 355, 356, 357, 600, 601, 602, 603, 1190, 1191, 1192, 1193, 1194, 1195, 1196, 1197, 1198, 1199, 1200, 1235, 1236, 1237, 1238, 1239, 1250, 1251, 1252, 1253, 1254, 1255, 1256, 1257, 1258, 1259, 1260, 1261, 1262, 1263, 1264] rfl gwX11_then
set_option maxRecDepth 20000 in
theorem gL_law_X11_then : GoodIn wsL_law (wsV RL 52 RX11 yX11_then wsX11_then) := goodIn_app (goodIn_r _ [596, 597, 598, 2] rfl (by decide +kernel)) ggL_law_X11_then
set_option maxRecDepth 20000 in
theorem gwX12_then : wsX12_then.all goodWord = true := by decide +kernel
set_option maxRecDepth 20000 in
theorem ggL_law_X12_then : GoodIn wsL_law wsX12_then := goodIn_r _ [607, 114, 415, 416, 417, 5, 418, 387, 371, 372, 373, 382, 383, 384, 385, 110, 111, 112, 386, 608, 609, 610, 611, 431, 432, 433, 434, 435, 436, 437, 438, 439, 440, 441, 277, 278, 279, 442, 443, 444, 445, 446, 447, 448, 449, 423, 424, 425, 426, 450, 451, 452, 453, 454, 455, 456, 457, 458, 459, 460, 461, 462, 312, 313, 463, 464, 465, 466, 467, 468, 469, 470, 471, 472, 473, 474, 475, 476, 477, 478, 479, 480, 481, 482, 483, 484, 485, 486, 612, 613, 614, 615, 616, 617, 618, 619, 487, 488, 489, 490, 1201, 1202, 1203, 1204, 1205, 1206, 1207, 1208, 1209, 1210, 1211, 1212, 1213, 1214, 1215, 1216, 1217, 1218, 1219, 1220, 1221, 1222] rfl gwX12_then
set_option maxRecDepth 20000 in
theorem gL_law_X12_then : GoodIn wsL_law (wsV RL 55 RX12 yX12_then wsX12_then) := goodIn_app (goodIn_r _ [604, 605, 606, 5] rfl (by decide +kernel)) ggL_law_X12_then
set_option maxRecDepth 20000 in
theorem gwX11_runs : wsX11_runs.all goodWord = true := by decide +kernel
set_option maxRecDepth 20000 in
theorem ggL_law_X11_runs : GoodIn wsL_law wsX11_runs := goodIn_r _ [623, 36, 35, 624, 625, 141, 142, 2, 143, 156, 157, 158, 34, 159, 160, 161, 81, 162, 163, 164, 85, 165, 92, 166, 167, 168, 169, 170, 171, 172, 173, 174, 175, 90, 91, 176, 177, 578, 242, 243, 244, 245, 246, 247, 248, 82, 83, 249, 250, 251, 252, 253, 254, 255, 256, 257, 258, 259, 15, 260, 261, 262, 263, 264, 265, 266, 267, 268, 269, 270, 271, 272, 273, 30, 274, 275, 276, 277, 278, 279, 280, 234, 235, 236, 281, 282, 283, 284, 285, 286, 287, 288, 289, 290, 291, 292, 293, 294, 295, 296, 297, 298, 299, 300, 301, 302, 303, 304, 305, 306, 307, 308, 18, 309, 310, 311, 312, 313, 314, 315, 316, 317, 318, 319, 320, 27, 321, 322, 323, 324, 325, 326, 327, 24, 328, 329, 330, 331, 332, 333, 334, 335, 336, 337, 338, 339, 340, 341, 342, 343, 344, 345, 346, 347, 348, 349, 350, 351, 352, 353, 21, 354, 355, 356, 357, 1190, 1191, 1192, 1193, 1194, 1195, 1196, 1197, 1198, 1199, 1200, 1235, 1236, 1237, 1238, 1239, 1250, 1251, 1252, 1253, 1254, 1255, 1256, 1257, 1258, 1259, 1260, 1261, 1262, 1263, 1264] rfl gwX11_runs
set_option maxRecDepth 20000 in
theorem gL_law_X11_runs : GoodIn wsL_law (wsV RL 56 RX11 yX11_runs wsX11_runs) := goodIn_app (goodIn_r _ [620, 621, 622, 2] rfl (by decide +kernel)) ggL_law_X11_runs
set_option maxRecDepth 20000 in
theorem gwX12_runs : wsX12_runs.all goodWord = true := by decide +kernel
set_option maxRecDepth 20000 in
theorem ggL_law_X12_runs : GoodIn wsL_law wsX12_runs := goodIn_r _ [629, 114, 439, 440, 371, 372, 5, 373, 382, 383, 384, 385, 110, 111, 112, 386, 387, 608, 609, 610, 611, 431, 432, 433, 434, 435, 436, 437, 438, 441, 277, 278, 279, 442, 443, 444, 445, 446, 447, 448, 449, 423, 424, 425, 426, 450, 451, 452, 453, 454, 455, 456, 457, 458, 459, 460, 461, 462, 312, 313, 463, 464, 465, 466, 467, 468, 469, 470, 471, 472, 473, 474, 475, 476, 477, 478, 479, 480, 481, 482, 483, 484, 485, 486, 487, 488, 489, 490, 1201, 1202, 1203, 1204, 1205, 1206, 1207, 1208, 1209, 1210, 1211, 1212, 1213, 1214, 1215, 1216, 1217, 1218, 1219, 1220, 1221, 1222] rfl gwX12_runs
set_option maxRecDepth 20000 in
theorem gL_law_X12_runs : GoodIn wsL_law (wsV RL 59 RX12 yX12_runs wsX12_runs) := goodIn_app (goodIn_r _ [626, 627, 628, 5] rfl (by decide +kernel)) ggL_law_X12_runs
set_option maxRecDepth 20000 in
theorem gwX11_quiet : wsX11_quiet.all goodWord = true := by decide +kernel
set_option maxRecDepth 20000 in
theorem ggL_law_X11_quiet : GoodIn wsL_law wsX11_quiet := goodIn_r _ [633, 36, 35, 141, 142, 2, 143, 156, 157, 158, 34, 159, 160, 161, 81, 162, 163, 164, 85, 165, 92, 166, 167, 168, 169, 170, 171, 172, 173, 174, 175, 90, 91, 176, 177, 634, 635, 636, 637, 638, 639, 640, 641, 642, 253, 643, 246, 247, 248, 82, 83, 249, 250, 251, 252, 254, 255, 256, 257, 258, 259, 15, 260, 261, 262, 263, 264, 265, 266, 267, 268, 269, 270, 271, 272, 273, 30, 274, 275, 276, 277, 278, 279, 280, 234, 235, 236, 281, 282, 283, 284, 285, 286, 287, 288, 289, 290, 291, 292, 293, 294, 295, 296, 297, 298, 299, 300, 301, 302, 303, 304, 305, 306, 307, 308, 18, 309, 310, 311, 312, 313, 314, 315, 316, 317, 318, 319, 320, 27, 321, 322, 323, 324, 325, 326, 327, 24, 328, 329, 330, 331, 332, 333, 334, 335, 336, 337, 338, 339, 340, 341, 342, 343, 344, 345, 346, 347, 348, 349, 350, 351, 352, 353, 21, 354, 355, 356, 357, 1190, 1191, 1192, 1193, 1194, 1195, 1196, 1197, 1198, 1199, 1200, 1235, 1236, 1237, 1238, 1239, 1250, 1251, 1252, 1253, 1254, 1255, 1256, 1257, 1258, 1259, 1260, 1261, 1262, 1263, 1264] rfl gwX11_quiet
set_option maxRecDepth 20000 in
theorem gL_law_X11_quiet : GoodIn wsL_law (wsV RL 60 RX11 yX11_quiet wsX11_quiet) := goodIn_app (goodIn_r _ [630, 631, 632, 2] rfl (by decide +kernel)) ggL_law_X11_quiet
set_option maxRecDepth 20000 in
theorem gwX12_quiet : wsX12_quiet.all goodWord = true := by decide +kernel
set_option maxRecDepth 20000 in
theorem ggL_law_X12_quiet : GoodIn wsL_law wsX12_quiet := goodIn_r _ [647, 114, 371, 372, 5, 373, 382, 383, 384, 385, 110, 111, 112, 386, 387, 648, 649, 650, 651, 431, 432, 433, 434, 435, 436, 437, 438, 439, 440, 441, 277, 278, 279, 442, 443, 444, 445, 446, 447, 448, 449, 423, 424, 425, 426, 450, 451, 452, 453, 454, 455, 456, 457, 458, 459, 460, 461, 462, 312, 313, 463, 464, 465, 466, 467, 468, 469, 470, 471, 472, 473, 474, 475, 476, 477, 478, 479, 480, 481, 482, 483, 484, 485, 486, 487, 488, 489, 490, 1201, 1202, 1203, 1204, 1205, 1206, 1207, 1208, 1209, 1210, 1211, 1212, 1213, 1214, 1215, 1216, 1217, 1218, 1219, 1220, 1221, 1222] rfl gwX12_quiet
set_option maxRecDepth 20000 in
theorem gL_law_X12_quiet : GoodIn wsL_law (wsV RL 63 RX12 yX12_quiet wsX12_quiet) := goodIn_app (goodIn_r _ [644, 645, 646, 5] rfl (by decide +kernel)) ggL_law_X12_quiet
set_option maxRecDepth 20000 in
theorem gwX11_misses : wsX11_misses.all goodWord = true := by decide +kernel
set_option maxRecDepth 20000 in
theorem ggL_law_X11_misses : GoodIn wsL_law wsX11_misses := goodIn_r _ [655, 35, 36, 656, 657, 658, 2, 659, 532, 156, 157, 158, 34, 159, 160, 161, 81, 162, 163, 164, 85, 165, 92, 166, 167, 168, 169, 170, 171, 172, 173, 174, 175, 90, 91, 176, 177, 643, 246, 247, 248, 82, 83, 249, 250, 251, 252, 253, 254, 255, 256, 257, 258, 259, 15, 260, 261, 262, 263, 264, 265, 266, 267, 268, 269, 270, 271, 272, 273, 30, 274, 275, 276, 277, 278, 279, 280, 234, 235, 236, 281, 282, 283, 284, 285, 286, 287, 288, 289, 290, 291, 292, 293, 294, 295, 296, 297, 298, 299, 300, 301, 302, 303, 304, 305, 306, 307, 308, 18, 309, 310, 311, 312, 313, 314, 315, 316, 317, 318, 319, 320, 27, 321, 322, 323, 324, 325, 326, 327, 24, 328, 329, 330, 331, 332, 333, 334, 335, 336, 337, 338, 339, 340, 341, 342, 343, 344, 345, 346, 347, 348, 349, 350, 351, 352, 353, 21, 354, 355, 356, 357, 660, 661, 662, 663, 495, 506, 508, 221, 222, 223, 142, 143, 664, 665, 666, 667, 1190, 1191, 1192, 1193, 1194, 1195, 1196, 1197, 1198, 1199, 1200, 1235, 1236, 1237, 1238, 1239, 1250, 1251, 1252, 1253, 1254, 1255, 1256, 1257, 1258, 1259, 1260, 1261, 1262, 1263, 1264] rfl gwX11_misses
set_option maxRecDepth 20000 in
theorem gL_law_X11_misses : GoodIn wsL_law (wsV RL 64 RX11 yX11_misses wsX11_misses) := goodIn_app (goodIn_r _ [652, 653, 654, 2] rfl (by decide +kernel)) ggL_law_X11_misses
set_option maxRecDepth 20000 in
theorem gwX12_misses : wsX12_misses.all goodWord = true := by decide +kernel
set_option maxRecDepth 20000 in
theorem ggL_law_X12_misses : GoodIn wsL_law wsX12_misses := goodIn_r _ [671, 114, 415, 416, 417, 5, 418, 387, 371, 372, 373, 382, 383, 384, 385, 110, 111, 112, 386, 431, 432, 433, 434, 435, 436, 437, 438, 439, 440, 441, 277, 278, 279, 442, 443, 444, 445, 446, 447, 448, 449, 423, 424, 425, 426, 450, 451, 452, 453, 454, 455, 456, 457, 458, 459, 460, 461, 462, 312, 313, 463, 464, 465, 466, 467, 468, 469, 470, 471, 472, 473, 474, 475, 476, 477, 478, 479, 480, 481, 482, 483, 484, 485, 486, 672, 673, 674, 675, 487, 488, 489, 490, 1201, 1202, 1203, 1204, 1205, 1206, 1207, 1208, 1209, 1210, 1211, 1212, 1213, 1214, 1215, 1216, 1217, 1218, 1219, 1220, 1221, 1222] rfl gwX12_misses
set_option maxRecDepth 20000 in
theorem gL_law_X12_misses : GoodIn wsL_law (wsV RL 67 RX12 yX12_misses wsX12_misses) := goodIn_app (goodIn_r _ [668, 669, 670, 5] rfl (by decide +kernel)) ggL_law_X12_misses
set_option maxRecDepth 20000 in
theorem gwX11_ran : wsX11_ran.all goodWord = true := by decide +kernel
set_option maxRecDepth 20000 in
theorem ggL_law_X11_ran : GoodIn wsL_law wsX11_ran := goodIn_r _ [679, 35, 36, 625, 624, 508, 221, 222, 34, 223, 160, 142, 2, 143, 141, 156, 157, 158, 159, 161, 81, 162, 163, 164, 85, 165, 92, 166, 167, 168, 169, 170, 171, 172, 173, 174, 175, 90, 91, 176, 177, 643, 246, 247, 248, 82, 83, 249, 250, 251, 252, 253, 254, 255, 256, 257, 258, 259, 15, 260, 261, 262, 263, 264, 265, 266, 267, 268, 269, 270, 271, 272, 273, 30, 274, 275, 276, 277, 278, 279, 280, 234, 235, 236, 281, 282, 283, 284, 285, 286, 287, 288, 289, 290, 291, 292, 293, 294, 295, 296, 297, 298, 299, 300, 301, 302, 303, 304, 305, 306, 307, 308, 18, 309, 310, 311, 312, 313, 314, 315, 316, 317, 318, 319, 320, 27, 321, 322, 323, 324, 325, 326, 327, 24, 328, 329, 330, 331, 332, 333, 334, 335, 336, 337, 338, 339, 340, 341, 342, 343, 344, 345, 346, 347, 348, 349, 350, 351, 352, 353, 21, 354, 355, 356, 357, 1190, 1191, 1192, 1193, 1194, 1195, 1196, 1197, 1198, 1199, 1200, 1235, 1236, 1237, 1238, 1239, 1250, 1251, 1252, 1253, 1254, 1255, 1256, 1257, 1258, 1259, 1260, 1261, 1262, 1263, 1264] rfl gwX11_ran
set_option maxRecDepth 20000 in
theorem gL_law_X11_ran : GoodIn wsL_law (wsV RL 68 RX11 yX11_ran wsX11_ran) := goodIn_app (goodIn_r _ [676, 677, 678, 2] rfl (by decide +kernel)) ggL_law_X11_ran
set_option maxRecDepth 20000 in
theorem gwX12_ran : wsX12_ran.all goodWord = true := by decide +kernel
set_option maxRecDepth 20000 in
theorem ggL_law_X12_ran : GoodIn wsL_law wsX12_ran := goodIn_r _ [683, 114, 440, 439, 415, 416, 417, 5, 418, 387, 371, 372, 373, 382, 383, 384, 385, 110, 111, 112, 386, 431, 432, 433, 434, 435, 436, 437, 438, 441, 277, 278, 279, 442, 443, 444, 445, 446, 447, 448, 449, 423, 424, 425, 426, 450, 451, 452, 453, 454, 455, 456, 457, 458, 459, 460, 461, 462, 312, 313, 463, 464, 465, 466, 467, 468, 469, 470, 471, 472, 473, 474, 475, 476, 477, 478, 479, 480, 481, 482, 483, 484, 485, 486, 487, 488, 489, 490, 1201, 1202, 1203, 1204, 1205, 1206, 1207, 1208, 1209, 1210, 1211, 1212, 1213, 1214, 1215, 1216, 1217, 1218, 1219, 1220, 1221, 1222] rfl gwX12_ran
set_option maxRecDepth 20000 in
theorem gL_law_X12_ran : GoodIn wsL_law (wsV RL 71 RX12 yX12_ran wsX12_ran) := goodIn_app (goodIn_r _ [680, 681, 682, 5] rfl (by decide +kernel)) ggL_law_X12_ran
set_option maxRecDepth 20000 in
theorem gwX11_admitted : wsX11_admitted.all goodWord = true := by decide +kernel
set_option maxRecDepth 20000 in
theorem ggL_law_X11_admitted : GoodIn wsL_law wsX11_admitted := goodIn_r _ [687, 35, 532, 495, 501, 535, 191, 2, 192, 141, 142, 143, 688, 209, 210, 1190, 1191, 1192, 1193, 1194, 1195, 1196, 1197, 1198, 1199, 1200, 1235, 1236, 1237, 1238, 1239, 1250, 1251, 1252, 1253, 1254, 1255, 1256, 1257, 1258, 1259, 1260, 1261, 1262, 1263, 1264] rfl gwX11_admitted
set_option maxRecDepth 20000 in
theorem gL_law_X11_admitted : GoodIn wsL_law (wsV RL 72 RX11 yX11_admitted wsX11_admitted) := goodIn_app (goodIn_r _ [684, 685, 686, 2] rfl (by decide +kernel)) ggL_law_X11_admitted
set_option maxRecDepth 20000 in
theorem gwX12_admitted : wsX12_admitted.all goodWord = true := by decide +kernel
set_option maxRecDepth 20000 in
theorem ggL_law_X12_admitted : GoodIn wsL_law wsX12_admitted := goodIn_r _ [692, 387, 404, 405, 5, 406, 371, 372, 373, 471, 472, 473, 474, 110, 1201, 1202, 1203, 1204, 1205, 1206, 1207, 1208, 1209, 1210, 1211, 1212, 1213, 1214, 1215, 1216, 1217, 1218, 1219, 1220, 1221, 1222] rfl gwX12_admitted
set_option maxRecDepth 20000 in
theorem gL_law_X12_admitted : GoodIn wsL_law (wsV RL 75 RX12 yX12_admitted wsX12_admitted) := goodIn_app (goodIn_r _ [689, 690, 691, 5] rfl (by decide +kernel)) ggL_law_X12_admitted
set_option maxRecDepth 20000 in
theorem gwX11_demand : wsX11_demand.all goodWord = true := by decide +kernel
set_option maxRecDepth 20000 in
theorem ggL_law_X11_demand : GoodIn wsL_law wsX11_demand := goodIn_r _ [696, 35, 141, 142, 2, 143, 697, 698, 699, 34, 700, 160, 81, 701, 702, 1190, 1191, 1192, 1193, 1194, 1195, 1196, 1197, 1198, 1199, 1200, 1235, 1236, 1237, 1238, 1239, 1250, 1251, 1252, 1253, 1254, 1255, 1256, 1257, 1258, 1259, 1260, 1261, 1262, 1263, 1264] rfl gwX11_demand
set_option maxRecDepth 20000 in
theorem gL_law_X11_demand : GoodIn wsL_law (wsV RL 76 RX11 yX11_demand wsX11_demand) := goodIn_app (goodIn_r _ [693, 694, 695, 2] rfl (by decide +kernel)) ggL_law_X11_demand
set_option maxRecDepth 20000 in
theorem gwX12_demand : wsX12_demand.all goodWord = true := by decide +kernel
set_option maxRecDepth 20000 in
theorem ggL_law_X12_demand : GoodIn wsL_law wsX12_demand := goodIn_r _ [706, 371, 372, 5, 373, 707, 708, 709, 710, 387, 110, 1201, 1202, 1203, 1204, 1205, 1206, 1207, 1208, 1209, 1210, 1211, 1212, 1213, 1214, 1215, 1216, 1217, 1218, 1219, 1220, 1221, 1222] rfl gwX12_demand
set_option maxRecDepth 20000 in
theorem gL_law_X12_demand : GoodIn wsL_law (wsV RL 79 RX12 yX12_demand wsX12_demand) := goodIn_app (goodIn_r _ [703, 704, 705, 5] rfl (by decide +kernel)) ggL_law_X12_demand
set_option maxRecDepth 20000 in
theorem gwX11_needs : wsX11_needs.all goodWord = true := by decide +kernel
set_option maxRecDepth 20000 in
theorem ggL_law_X11_needs : GoodIn wsL_law wsX11_needs := goodIn_r _ [714, 35, 495, 500, 36, 508, 221, 222, 34, 223, 160, 142, 2, 143, 141, 156, 157, 158, 159, 161, 81, 162, 163, 164, 85, 165, 92, 166, 167, 168, 169, 170, 171, 172, 173, 174, 175, 90, 91, 176, 177, 715, 206, 207, 208, 209, 210, 664, 665, 666, 667, 643, 246, 247, 248, 82, 83, 249, 250, 251, 252, 253, 254, 255, 256, 257, 258, 259, 15, 260, 261, 262, 263, 264, 265, 266, 267, 268, 269, 270, 271, 272, 273, 30, 274, 275, 276, 277, 278, 279, 280, 234, 235, 236, 281, 282, 283, 284, 285, 286, 287, 288, 289, 290, 291, 292, 293, 294, 295, 296, 297, 298, 299, 300, 301, 302, 303, 304, 305, 306, 307, 308, 18, 309, 310, 311, 312, 313, 314, 315, 316, 317, 318, 319, 320, 27, 321, 322, 323, 324, 325, 326, 327, 24, 328, 329, 330, 331, 332, 333, 334, 335, 336, 337, 338, 339, 340, 341, 342, 343, 344, 345, 346, 347, 348, 349, 350, 351, 352, 353, 21, 354, 355, 356, 357, 660, 661, 662, 663, 506, 1190, 1191, 1192, 1193, 1194, 1195, 1196, 1197, 1198, 1199, 1200, 1235, 1236, 1237, 1238, 1239, 1250, 1251, 1252, 1253, 1254, 1255, 1256, 1257, 1258, 1259, 1260, 1261, 1262, 1263, 1264] rfl gwX11_needs
set_option maxRecDepth 20000 in
theorem gL_law_X11_needs : GoodIn wsL_law (wsV RL 80 RX11 yX11_needs wsX11_needs) := goodIn_app (goodIn_r _ [711, 712, 713, 2] rfl (by decide +kernel)) ggL_law_X11_needs
set_option maxRecDepth 20000 in
theorem gwX12_needs : wsX12_needs.all goodWord = true := by decide +kernel
set_option maxRecDepth 20000 in
theorem ggL_law_X12_needs : GoodIn wsL_law wsX12_needs := goodIn_r _ [719, 114, 110, 441, 277, 278, 279, 415, 416, 417, 5, 418, 387, 371, 372, 373, 382, 383, 384, 385, 111, 112, 386, 608, 609, 610, 611, 431, 432, 433, 434, 435, 436, 437, 438, 439, 440, 442, 443, 444, 445, 446, 447, 448, 449, 423, 424, 425, 426, 450, 451, 452, 453, 454, 455, 456, 457, 458, 459, 460, 461, 462, 312, 313, 463, 464, 465, 466, 467, 468, 469, 470, 471, 472, 473, 474, 475, 476, 477, 478, 479, 480, 481, 482, 483, 484, 485, 486, 487, 488, 489, 490, 1201, 1202, 1203, 1204, 1205, 1206, 1207, 1208, 1209, 1210, 1211, 1212, 1213, 1214, 1215, 1216, 1217, 1218, 1219, 1220, 1221, 1222] rfl gwX12_needs
set_option maxRecDepth 20000 in
theorem gL_law_X12_needs : GoodIn wsL_law (wsV RL 83 RX12 yX12_needs wsX12_needs) := goodIn_app (goodIn_r _ [716, 717, 718, 5] rfl (by decide +kernel)) ggL_law_X12_needs
set_option maxRecDepth 20000 in
theorem gwX11_alone : wsX11_alone.all goodWord = true := by decide +kernel
set_option maxRecDepth 20000 in
theorem ggL_law_X11_alone : GoodIn wsL_law wsX11_alone := goodIn_r _ [723, 35, 36, 532, 495, 508, 221, 222, 34, 223, 160, 142, 2, 143, 141, 156, 157, 158, 159, 161, 81, 162, 163, 164, 85, 165, 92, 166, 167, 168, 169, 170, 171, 172, 173, 174, 175, 90, 91, 176, 177, 564, 202, 203, 204, 578, 242, 243, 244, 245, 246, 247, 248, 82, 83, 249, 250, 251, 252, 253, 254, 255, 256, 257, 258, 259, 15, 260, 261, 262, 263, 264, 265, 266, 267, 268, 269, 270, 271, 272, 273, 30, 274, 275, 276, 277, 278, 279, 280, 234, 235, 236, 281, 282, 283, 284, 285, 286, 287, 288, 289, 290, 291, 292, 293, 294, 295, 296, 297, 298, 299, 300, 301, 302, 303, 304, 305, 306, 307, 308, 18, 309, 310, 311, 312, 313, 314, 315, 316, 317, 318, 319, 320, 27, 321, 322, 323, 324, 325, 326, 327, 24, 328, 329, 330, 331, 332, 333, 334, 335, 336, 337, 338, 339, 340, 341, 342, 343, 344, 345, 346, 347, 348, 349, 350, 351, 352, 353, 21, 354, 355, 356, 357, 660, 661, 662, 663, 506, 1190, 1191, 1192, 1193, 1194, 1195, 1196, 1197, 1198, 1199, 1200, 1235, 1236, 1237, 1238, 1239, 1250, 1251, 1252, 1253, 1254, 1255, 1256, 1257, 1258, 1259, 1260, 1261, 1262, 1263, 1264] rfl gwX11_alone
set_option maxRecDepth 20000 in
theorem gL_law_X11_alone : GoodIn wsL_law (wsV RL 84 RX11 yX11_alone wsX11_alone) := goodIn_app (goodIn_r _ [720, 721, 722, 2] rfl (by decide +kernel)) ggL_law_X11_alone
set_option maxRecDepth 20000 in
theorem gwX12_alone : wsX12_alone.all goodWord = true := by decide +kernel
set_option maxRecDepth 20000 in
theorem ggL_law_X12_alone : GoodIn wsL_law wsX12_alone := goodIn_r _ [727, 114, 387, 110, 415, 416, 417, 5, 418, 371, 372, 373, 382, 383, 384, 385, 111, 112, 386, 569, 570, 571, 572, 608, 609, 610, 611, 431, 432, 433, 434, 435, 436, 437, 438, 439, 440, 441, 277, 278, 279, 442, 443, 444, 445, 446, 447, 448, 449, 423, 424, 425, 426, 450, 451, 452, 453, 454, 455, 456, 457, 458, 459, 460, 461, 462, 312, 313, 463, 464, 465, 466, 467, 468, 469, 470, 471, 472, 473, 474, 475, 476, 477, 478, 479, 480, 481, 482, 483, 484, 485, 486, 487, 488, 489, 490, 1201, 1202, 1203, 1204, 1205, 1206, 1207, 1208, 1209, 1210, 1211, 1212, 1213, 1214, 1215, 1216, 1217, 1218, 1219, 1220, 1221, 1222] rfl gwX12_alone
set_option maxRecDepth 20000 in
theorem gL_law_X12_alone : GoodIn wsL_law (wsV RL 87 RX12 yX12_alone wsX12_alone) := goodIn_app (goodIn_r _ [724, 725, 726, 5] rfl (by decide +kernel)) ggL_law_X12_alone
set_option maxRecDepth 20000 in
theorem gwX11_kindBest : wsX11_kindBest.all goodWord = true := by decide +kernel
set_option maxRecDepth 20000 in
theorem ggL_law_X11_kindBest : GoodIn wsL_law wsX11_kindBest := goodIn_r _ [731, 35, 36, 495, 31, 496, 508, 221, 222, 34, 223, 160, 142, 2, 143, 141, 156, 157, 158, 159, 161, 81, 162, 163, 164, 85, 165, 92, 166, 167, 168, 169, 170, 171, 172, 173, 174, 175, 90, 91, 176, 177, 578, 242, 243, 244, 245, 246, 247, 248, 82, 83, 249, 250, 251, 252, 253, 254, 255, 256, 257, 258, 259, 15, 260, 261, 262, 263, 264, 265, 266, 267, 268, 269, 270, 271, 272, 273, 30, 274, 275, 276, 277, 278, 279, 280, 234, 235, 236, 281, 282, 283, 284, 285, 286, 287, 288, 289, 290, 291, 292, 293, 294, 295, 296, 297, 298, 299, 300, 301, 302, 303, 304, 305, 306, 307, 308, 18, 309, 310, 311, 312, 313, 314, 315, 316, 317, 318, 319, 320, 27, 321, 322, 323, 324, 325, 326, 327, 24, 328, 329, 330, 331, 332, 333, 334, 335, 336, 337, 338, 339, 340, 341, 342, 343, 344, 345, 346, 347, 348, 349, 350, 351, 352, 353, 21, 354, 355, 356, 357, 579, 580, 581, 582, 583, 584, 585, 586, 587, 1190, 1191, 1192, 1193, 1194, 1195, 1196, 1197, 1198, 1199, 1200, 1235, 1236, 1237, 1238, 1239, 1250, 1251, 1252, 1253, 1254, 1255, 1256, 1257, 1258, 1259, 1260, 1261, 1262, 1263, 1264] rfl gwX11_kindBest
set_option maxRecDepth 20000 in
theorem gL_law_X11_kindBest : GoodIn wsL_law (wsV RL 88 RX11 yX11_kindBest wsX11_kindBest) := goodIn_app (goodIn_r _ [728, 729, 730, 2] rfl (by decide +kernel)) ggL_law_X11_kindBest
set_option maxRecDepth 20000 in
theorem gwX12_kindBest : wsX12_kindBest.all goodWord = true := by decide +kernel
set_option maxRecDepth 20000 in
theorem ggL_law_X12_kindBest : GoodIn wsL_law wsX12_kindBest := goodIn_r _ [735, 114, 110, 415, 416, 417, 5, 418, 387, 371, 372, 373, 382, 383, 384, 385, 111, 112, 386, 608, 609, 610, 611, 431, 432, 433, 434, 435, 436, 437, 438, 439, 440, 441, 277, 278, 279, 442, 443, 444, 445, 446, 447, 448, 449, 423, 424, 425, 426, 450, 451, 452, 453, 454, 455, 456, 457, 458, 459, 460, 461, 462, 312, 313, 463, 464, 465, 466, 467, 468, 469, 470, 471, 472, 473, 474, 475, 476, 477, 478, 479, 480, 481, 482, 483, 484, 485, 486, 592, 593, 594, 595, 487, 488, 489, 490, 1201, 1202, 1203, 1204, 1205, 1206, 1207, 1208, 1209, 1210, 1211, 1212, 1213, 1214, 1215, 1216, 1217, 1218, 1219, 1220, 1221, 1222] rfl gwX12_kindBest
set_option maxRecDepth 20000 in
theorem gL_law_X12_kindBest : GoodIn wsL_law (wsV RL 91 RX12 yX12_kindBest wsX12_kindBest) := goodIn_app (goodIn_r _ [732, 733, 734, 5] rfl (by decide +kernel)) ggL_law_X12_kindBest
set_option maxRecDepth 20000 in
theorem gwX11_send : wsX11_send.all goodWord = true := by decide +kernel
set_option maxRecDepth 20000 in
theorem ggL_law_X11_send : GoodIn wsL_law wsX11_send := goodIn_r _ [739, 36, 35, 532, 49, 495, 141, 142, 2, 143, 156, 157, 158, 34, 159, 160, 161, 81, 162, 163, 164, 85, 165, 92, 166, 167, 168, 169, 170, 171, 172, 173, 174, 175, 90, 91, 176, 177, 578, 242, 243, 244, 245, 246, 247, 248, 82, 83, 249, 250, 251, 252, 253, 254, 255, 256, 257, 258, 259, 15, 260, 261, 262, 263, 264, 265, 266, 267, 268, 269, 270, 271, 272, 273, 30, 274, 275, 276, 277, 278, 279, 280, 234, 235, 236, 281, 282, 283, 284, 285, 286, 287, 288, 289, 290, 291, 292, 293, 294, 295, 296, 297, 298, 299, 300, 301, 302, 303, 304, 305, 306, 307, 308, 18, 309, 310, 311, 312, 313, 314, 315, 316, 317, 318, 319, 320, 27, 321, 322, 323, 324, 325, 326, 327, 24, 328, 329, 330, 331, 332, 333, 334, 335, 336, 337, 338, 339, 340, 341, 342, 343, 344, 345, 346, 347, 348, 349, 350, 351, 352, 353, 21, 354, 355, 356, 357, 740, 584, 585, 586, 587, 564, 202, 203, 204, 1190, 1191, 1192, 1193, 1194, 1195, 1196, 1197, 1198, 1199, 1200, 1235, 1236, 1237, 1238, 1239, 1250, 1251, 1252, 1253, 1254, 1255, 1256, 1257, 1258, 1259, 1260, 1261, 1262, 1263, 1264] rfl gwX11_send
set_option maxRecDepth 20000 in
theorem gL_law_X11_send : GoodIn wsL_law (wsV RL 92 RX11 yX11_send wsX11_send) := goodIn_app (goodIn_r _ [736, 737, 738, 2] rfl (by decide +kernel)) ggL_law_X11_send
set_option maxRecDepth 20000 in
theorem gwX12_send : wsX12_send.all goodWord = true := by decide +kernel
set_option maxRecDepth 20000 in
theorem ggL_law_X12_send : GoodIn wsL_law wsX12_send := goodIn_r _ [744, 114, 387, 371, 372, 5, 373, 382, 383, 384, 385, 110, 111, 112, 386, 745, 746, 747, 748, 569, 570, 571, 572, 608, 609, 610, 611, 431, 432, 433, 434, 435, 436, 437, 438, 439, 440, 441, 277, 278, 279, 442, 443, 444, 445, 446, 447, 448, 449, 423, 424, 425, 426, 450, 451, 452, 453, 454, 455, 456, 457, 458, 459, 460, 461, 462, 312, 313, 463, 464, 465, 466, 467, 468, 469, 470, 471, 472, 473, 474, 475, 476, 477, 478, 479, 480, 481, 482, 483, 484, 485, 486, 592, 593, 594, 595, 487, 488, 489, 490, 1201, 1202, 1203, 1204, 1205, 1206, 1207, 1208, 1209, 1210, 1211, 1212, 1213, 1214, 1215, 1216, 1217, 1218, 1219, 1220, 1221, 1222] rfl gwX12_send
set_option maxRecDepth 20000 in
theorem gL_law_X12_send : GoodIn wsL_law (wsV RL 95 RX12 yX12_send wsX12_send) := goodIn_app (goodIn_r _ [741, 742, 743, 5] rfl (by decide +kernel)) ggL_law_X12_send
set_option maxRecDepth 20000 in
theorem gwX11_load : wsX11_load.all goodWord = true := by decide +kernel
set_option maxRecDepth 20000 in
theorem ggL_law_X11_load : GoodIn wsL_law wsX11_load := goodIn_r _ [752, 36, 35, 753, 277, 278, 279, 141, 142, 2, 143, 156, 157, 158, 34, 159, 160, 161, 81, 162, 163, 164, 85, 165, 92, 166, 167, 168, 169, 170, 171, 172, 173, 174, 175, 90, 91, 176, 177, 509, 300, 301, 302, 253, 303, 643, 246, 247, 248, 82, 83, 249, 250, 251, 252, 254, 255, 256, 257, 258, 259, 15, 260, 261, 262, 263, 264, 265, 266, 267, 268, 269, 270, 271, 272, 273, 30, 274, 275, 276, 280, 234, 235, 236, 281, 282, 283, 284, 285, 286, 287, 288, 289, 290, 291, 292, 293, 294, 295, 296, 297, 298, 299, 304, 305, 306, 307, 308, 18, 309, 310, 311, 312, 313, 314, 315, 316, 317, 318, 319, 320, 27, 321, 322, 323, 324, 325, 326, 327, 24, 328, 329, 330, 331, 332, 333, 334, 335, 336, 337, 338, 339, 340, 341, 342, 343, 344, 345, 346, 347, 348, 349, 350, 351, 352, 353, 21, 354, 355, 356, 357, 1190, 1191, 1192, 1193, 1194, 1195, 1196, 1197, 1198, 1199, 1200, 1235, 1236, 1237, 1238, 1239, 1250, 1251, 1252, 1253, 1254, 1255, 1256, 1257, 1258, 1259, 1260, 1261, 1262, 1263, 1264] rfl gwX11_load
set_option maxRecDepth 20000 in
theorem gL_law_X11_load : GoodIn wsL_law (wsV RL 96 RX11 yX11_load wsX11_load) := goodIn_app (goodIn_r _ [749, 750, 751, 2] rfl (by decide +kernel)) ggL_law_X11_load
set_option maxRecDepth 20000 in
theorem gwX12_load_ : wsX12_load_.all goodWord = true := by decide +kernel
set_option maxRecDepth 20000 in
theorem ggL_law_X12_load_ : GoodIn wsL_law wsX12_load_ := goodIn_r _ [757, 114, 441, 277, 278, 279, 371, 372, 5, 373, 382, 383, 384, 385, 110, 111, 112, 386, 387, 467, 468, 469, 470, 471, 472, 473, 474, 431, 432, 433, 434, 435, 436, 437, 438, 439, 440, 442, 443, 444, 445, 446, 447, 448, 449, 423, 424, 425, 426, 450, 451, 452, 453, 454, 455, 456, 457, 458, 459, 460, 461, 462, 312, 313, 463, 464, 465, 466, 475, 476, 477, 478, 479, 480, 481, 482, 483, 484, 485, 486, 487, 488, 489, 490, 1201, 1202, 1203, 1204, 1205, 1206, 1207, 1208, 1209, 1210, 1211, 1212, 1213, 1214, 1215, 1216, 1217, 1218, 1219, 1220, 1221, 1222] rfl gwX12_load_
set_option maxRecDepth 20000 in
theorem gL_law_X12_load_ : GoodIn wsL_law (wsV RL 99 RX12 yX12_load_ wsX12_load_) := goodIn_app (goodIn_r _ [754, 755, 756, 5] rfl (by decide +kernel)) ggL_law_X12_load_
set_option maxRecDepth 20000 in
theorem gwX11_whoRan : wsX11_whoRan.all goodWord = true := by decide +kernel
set_option maxRecDepth 20000 in
theorem ggL_law_X11_whoRan : GoodIn wsL_law wsX11_whoRan := goodIn_r _ [761, 35, 36, 495, 31, 496, 498, 39, 138, 139, 2, 140, 141, 142, 143, 508, 221, 222, 34, 223, 160, 129, 130, 131, 132, 133, 134, 135, 136, 137, 156, 157, 158, 159, 161, 81, 162, 163, 164, 85, 165, 92, 166, 167, 168, 169, 170, 171, 172, 173, 174, 175, 90, 91, 176, 177, 762, 763, 764, 765, 128, 625, 643, 246, 247, 248, 82, 83, 249, 250, 251, 252, 253, 254, 255, 256, 257, 258, 259, 15, 260, 261, 262, 263, 264, 265, 266, 267, 268, 269, 270, 271, 272, 273, 30, 274, 275, 276, 277, 278, 279, 280, 234, 235, 236, 281, 282, 283, 284, 285, 286, 287, 288, 289, 290, 291, 292, 293, 294, 295, 296, 297, 298, 299, 300, 301, 302, 303, 304, 305, 306, 307, 308, 18, 309, 310, 311, 312, 313, 314, 315, 316, 317, 318, 319, 320, 27, 321, 322, 323, 324, 325, 326, 327, 24, 328, 329, 330, 331, 332, 333, 334, 335, 336, 337, 338, 339, 340, 341, 342, 343, 344, 345, 346, 347, 348, 349, 350, 351, 352, 353, 21, 354, 355, 356, 357, 766, 767, 768, 41, 769, 770, 771, 772, 150, 151, 152, 98, 358, 1190, 1191, 1192, 1193, 1194, 1195, 1196, 1197, 1198, 1199, 1200, 1235, 1236, 1237, 1238, 1239, 1250, 1251, 1252, 1253, 1254, 1255, 1256, 1257, 1258, 1259, 1260, 1261, 1262, 1263, 1264, 1240, 1241, 1242, 1243, 1244, 1245] rfl gwX11_whoRan
set_option maxRecDepth 20000 in
theorem gL_law_X11_whoRan : GoodIn wsL_law (wsV RL 100 RX11 yX11_whoRan wsX11_whoRan) := goodIn_app (goodIn_r _ [758, 759, 760, 2] rfl (by decide +kernel)) ggL_law_X11_whoRan
