set_option maxRecDepth 20000 in
theorem gwX12_whoRan : wsX12_whoRan.all goodWord = true := by decide +kernel
set_option maxRecDepth 20000 in
theorem ggL_law_X12_whoRan : GoodIn wsL_law wsX12_whoRan := goodIn_r _ [776, 114, 110, 368, 369, 5, 370, 371, 372, 373, 415, 416, 417, 418, 387, 378, 379, 380, 381, 116, 382, 383, 384, 385, 111, 112, 386, 777, 778, 779, 780, 118, 119, 440, 431, 432, 433, 434, 435, 436, 437, 438, 439, 441, 277, 278, 279, 442, 443, 444, 445, 446, 447, 448, 449, 423, 424, 425, 426, 450, 451, 452, 453, 454, 455, 456, 457, 458, 459, 460, 461, 462, 312, 313, 463, 464, 465, 466, 467, 468, 469, 470, 471, 472, 473, 474, 475, 476, 477, 478, 479, 480, 481, 482, 483, 484, 485, 486, 781, 782, 783, 784, 117, 785, 487, 488, 489, 490, 1201, 1202, 1203, 1204, 1205, 1206, 1207, 1208, 1209, 1210, 1211, 1212, 1213, 1214, 1215, 1216, 1217, 1218, 1219, 1220, 1221, 1222] rfl gwX12_whoRan
set_option maxRecDepth 20000 in
theorem gL_law_X12_whoRan : GoodIn wsL_law (wsV RL 103 RX12 yX12_whoRan wsX12_whoRan) := goodIn_app (goodIn_r _ [773, 774, 775, 5] rfl (by decide +kernel)) ggL_law_X12_whoRan
set_option maxRecDepth 20000 in
theorem gwX11_two : wsX11_two.all goodWord = true := by decide +kernel
set_option maxRecDepth 20000 in
theorem ggL_law_X11_two : GoodIn wsL_law wsX11_two := goodIn_r _ [789, 35, 495, 47, 48, 508, 221, 222, 34, 223, 160, 142, 2, 143, 141, 790, 225, 226, 85, 227, 175, 791, 792, 793, 794, 36, 553, 156, 157, 158, 159, 161, 81, 162, 163, 164, 165, 92, 166, 167, 168, 169, 170, 171, 172, 173, 174, 90, 91, 176, 177, 555, 229, 230, 231, 232, 233, 234, 235, 236, 578, 242, 243, 244, 245, 246, 247, 248, 82, 83, 249, 250, 251, 252, 253, 254, 255, 256, 257, 258, 259, 15, 260, 261, 262, 263, 264, 265, 266, 267, 268, 269, 270, 271, 272, 273, 30, 274, 275, 276, 277, 278, 279, 280, 281, 282, 283, 284, 285, 286, 287, 288, 289, 290, 291, 292, 293, 294, 295, 296, 297, 298, 299, 300, 301, 302, 303, 304, 305, 306, 307, 308, 18, 309, 310, 311, 312, 313, 314, 315, 316, 317, 318, 319, 320, 27, 321, 322, 323, 324, 325, 326, 327, 24, 328, 329, 330, 331, 332, 333, 334, 335, 336, 337, 338, 339, 340, 341, 342, 343, 344, 345, 346, 347, 348, 349, 350, 351, 352, 353, 21, 354, 355, 356, 357, 660, 661, 662, 663, 506, 1190, 1191, 1192, 1193, 1194, 1195, 1196, 1197, 1198, 1199, 1200, 1235, 1236, 1237, 1238, 1239, 1250, 1251, 1252, 1253, 1254, 1255, 1256, 1257, 1258, 1259, 1260, 1261, 1262, 1263, 1264] rfl gwX11_two
set_option maxRecDepth 20000 in
theorem gL_law_X11_two : GoodIn wsL_law (wsV RL 104 RX11 yX11_two wsX11_two) := goodIn_app (goodIn_r _ [786, 787, 788, 2] rfl (by decide +kernel)) ggL_law_X11_two
set_option maxRecDepth 20000 in
theorem gwX12_two : wsX12_two.all goodWord = true := by decide +kernel
set_option maxRecDepth 20000 in
theorem ggL_law_X12_two : GoodIn wsL_law wsX12_two := goodIn_r _ [798, 110, 114, 415, 416, 417, 5, 418, 387, 371, 372, 373, 382, 383, 384, 385, 111, 112, 386, 799, 800, 801, 802, 419, 420, 421, 422, 423, 424, 425, 426, 608, 609, 610, 611, 431, 432, 433, 434, 435, 436, 437, 438, 439, 440, 441, 277, 278, 279, 442, 443, 444, 445, 446, 447, 448, 449, 450, 451, 452, 453, 454, 455, 456, 457, 458, 459, 460, 461, 462, 312, 313, 463, 464, 465, 466, 467, 468, 469, 470, 471, 472, 473, 474, 475, 476, 477, 478, 479, 480, 481, 482, 483, 484, 485, 486, 487, 488, 489, 490, 1201, 1202, 1203, 1204, 1205, 1206, 1207, 1208, 1209, 1210, 1211, 1212, 1213, 1214, 1215, 1216, 1217, 1218, 1219, 1220, 1221, 1222] rfl gwX12_two
set_option maxRecDepth 20000 in
theorem gL_law_X12_two : GoodIn wsL_law (wsV RL 107 RX12 yX12_two wsX12_two) := goodIn_app (goodIn_r _ [795, 796, 797, 5] rfl (by decide +kernel)) ggL_law_X12_two
set_option maxRecDepth 20000 in
theorem gwX11_breaks : wsX11_breaks.all goodWord = true := by decide +kernel
set_option maxRecDepth 20000 in
theorem ggL_law_X11_breaks : GoodIn wsL_law wsX11_breaks := goodIn_r _ [806, 35, 807, 508, 221, 222, 34, 223, 160, 142, 2, 143, 141, 808, 809, 810, 811, 36, 156, 157, 158, 159, 161, 81, 162, 163, 164, 85, 165, 92, 166, 167, 168, 169, 170, 171, 172, 173, 174, 175, 90, 91, 176, 177, 643, 246, 247, 248, 82, 83, 249, 250, 251, 252, 253, 254, 255, 256, 257, 258, 259, 15, 260, 261, 262, 263, 264, 265, 266, 267, 268, 269, 270, 271, 272, 273, 30, 274, 275, 276, 277, 278, 279, 280, 234, 235, 236, 281, 282, 283, 284, 285, 286, 287, 288, 289, 290, 291, 292, 293, 294, 295, 296, 297, 298, 299, 300, 301, 302, 303, 304, 305, 306, 307, 308, 18, 309, 310, 311, 312, 313, 314, 315, 316, 317, 318, 319, 320, 27, 321, 322, 323, 324, 325, 326, 327, 24, 328, 329, 330, 331, 332, 333, 334, 335, 336, 337, 338, 339, 340, 341, 342, 343, 344, 345, 346, 347, 348, 349, 350, 351, 352, 353, 21, 354, 355, 356, 357, 660, 661, 662, 663, 495, 506, 812, 813, 814, 815, 816, 817, 818, 819, 820, 821, 822, 823, 824, 1190, 1191, 1192, 1193, 1194, 1195, 1196, 1197, 1198, 1199, 1200, 1235, 1236, 1237, 1238, 1239, 1250, 1251, 1252, 1253, 1254, 1255, 1256, 1257, 1258, 1259, 1260, 1261, 1262, 1263, 1264] rfl gwX11_breaks
set_option maxRecDepth 20000 in
theorem gL_law_X11_breaks : GoodIn wsL_law (wsV RL 108 RX11 yX11_breaks wsX11_breaks) := goodIn_app (goodIn_r _ [803, 804, 805, 2] rfl (by decide +kernel)) ggL_law_X11_breaks
set_option maxRecDepth 20000 in
theorem gwX12_breaks : wsX12_breaks.all goodWord = true := by decide +kernel
set_option maxRecDepth 20000 in
theorem ggL_law_X12_breaks : GoodIn wsL_law wsX12_breaks := goodIn_r _ [828, 829, 114, 110, 415, 416, 417, 5, 418, 387, 371, 372, 373, 382, 383, 384, 385, 111, 112, 386, 435, 436, 437, 438, 439, 440, 441, 277, 278, 279, 442, 443, 444, 445, 446, 447, 448, 449, 423, 424, 425, 426, 450, 451, 452, 453, 454, 455, 456, 457, 458, 459, 460, 461, 462, 312, 313, 463, 464, 465, 466, 467, 468, 469, 470, 471, 472, 473, 474, 475, 476, 477, 478, 479, 480, 481, 482, 483, 484, 485, 486, 487, 488, 489, 490, 830, 831, 832, 1201, 1202, 1203, 1204, 1205, 1206, 1207, 1208, 1209, 1210, 1211, 1212, 1213, 1214, 1215, 1216, 1217, 1218, 1219, 1220, 1221, 1222] rfl gwX12_breaks
set_option maxRecDepth 20000 in
theorem gL_law_X12_breaks : GoodIn wsL_law (wsV RL 112 RX12 yX12_breaks wsX12_breaks) := goodIn_app (goodIn_r _ [825, 826, 827, 5] rfl (by decide +kernel)) ggL_law_X12_breaks
set_option maxRecDepth 20000 in
theorem gwX11_share : wsX11_share.all goodWord = true := by decide +kernel
set_option maxRecDepth 20000 in
theorem ggL_law_X11_share : GoodIn wsL_law wsX11_share := goodIn_r _ [836, 35, 807, 495, 504, 501, 508, 221, 222, 34, 223, 160, 142, 2, 143, 141, 509, 300, 301, 302, 81, 253, 303, 822, 823, 824, 1190, 1191, 1192, 1193, 1194, 1195, 1196, 1197, 1198, 1199, 1200, 1235, 1236, 1237, 1238, 1239, 1250, 1251, 1252, 1253, 1254, 1255, 1256, 1257, 1258, 1259, 1260, 1261, 1262, 1263, 1264] rfl gwX11_share
set_option maxRecDepth 20000 in
theorem gL_law_X11_share : GoodIn wsL_law (wsV RL 113 RX11 yX11_share wsX11_share) := goodIn_app (goodIn_r _ [833, 834, 835, 2] rfl (by decide +kernel)) ggL_law_X11_share
set_option maxRecDepth 20000 in
theorem gwX12_share_ : wsX12_share_.all goodWord = true := by decide +kernel
set_option maxRecDepth 20000 in
theorem ggL_law_X12_share_ : GoodIn wsL_law wsX12_share_ := goodIn_r _ [840, 829, 110, 415, 416, 417, 5, 418, 387, 371, 372, 373, 467, 468, 469, 470, 471, 472, 473, 474, 830, 831, 832, 1201, 1202, 1203, 1204, 1205, 1206, 1207, 1208, 1209, 1210, 1211, 1212, 1213, 1214, 1215, 1216, 1217, 1218, 1219, 1220, 1221, 1222] rfl gwX12_share_
set_option maxRecDepth 20000 in
theorem gL_law_X12_share_ : GoodIn wsL_law (wsV RL 116 RX12 yX12_share_ wsX12_share_) := goodIn_app (goodIn_r _ [837, 838, 839, 5] rfl (by decide +kernel)) ggL_law_X12_share_
set_option maxRecDepth 20000 in
theorem gwX11_bits : wsX11_bits.all goodWord = true := by decide +kernel
set_option maxRecDepth 20000 in
theorem ggL_law_X11_bits : GoodIn wsL_law wsX11_bits := goodIn_r _ [844, 35, 495, 499, 500, 508, 221, 222, 34, 223, 160, 142, 2, 143, 845, 846, 847, 848, 1190, 1191, 1192, 1193, 1194, 1195, 1196, 1197, 1198, 1199, 1200, 1235, 1236, 1237, 1238, 1239, 1250, 1251, 1252, 1253, 1254, 1255, 1256, 1257, 1258, 1259, 1260, 1261, 1262, 1263, 1264] rfl gwX11_bits
set_option maxRecDepth 20000 in
theorem gL_law_X11_bits : GoodIn wsL_law (wsV RL 117 RX11 yX11_bits wsX11_bits) := goodIn_app (goodIn_r _ [841, 842, 843, 2] rfl (by decide +kernel)) ggL_law_X11_bits
set_option maxRecDepth 20000 in
theorem gwX12_bits : wsX12_bits.all goodWord = true := by decide +kernel
set_option maxRecDepth 20000 in
theorem ggL_law_X12_bits : GoodIn wsL_law wsX12_bits := goodIn_r _ [852, 110, 853, 367, 415, 416, 417, 5, 418, 387, 371, 372, 373, 854, 855, 856, 857, 858, 1201, 1202, 1203, 1204, 1205, 1206, 1207, 1208, 1209, 1210, 1211, 1212, 1213, 1214, 1215, 1216, 1217, 1218, 1219, 1220, 1221, 1222] rfl gwX12_bits
set_option maxRecDepth 20000 in
theorem gL_law_X12_bits : GoodIn wsL_law (wsV RL 120 RX12 yX12_bits wsX12_bits) := goodIn_app (goodIn_r _ [849, 850, 851, 5] rfl (by decide +kernel)) ggL_law_X12_bits
set_option maxRecDepth 20000 in
theorem gwX11_wide : wsX11_wide.all goodWord = true := by decide +kernel
set_option maxRecDepth 20000 in
theorem ggL_law_X11_wide : GoodIn wsL_law wsX11_wide := goodIn_r _ [862, 35, 807, 495, 502, 863, 864, 865, 278, 866, 867, 508, 221, 222, 34, 223, 160, 142, 2, 143, 845, 846, 847, 848, 1190, 1191, 1192, 1193, 1194, 1195, 1196, 1197, 1198, 1199, 1200, 1235, 1236, 1237, 1238, 1239, 1250, 1251, 1252, 1253, 1254, 1255, 1256, 1257, 1258, 1259, 1260, 1261, 1262, 1263, 1264] rfl gwX11_wide
set_option maxRecDepth 20000 in
theorem gL_law_X11_wide : GoodIn wsL_law (wsV RL 121 RX11 yX11_wide wsX11_wide) := goodIn_app (goodIn_r _ [859, 860, 861, 2] rfl (by decide +kernel)) ggL_law_X11_wide
set_option maxRecDepth 20000 in
theorem gwX12_wide : wsX12_wide.all goodWord = true := by decide +kernel
set_option maxRecDepth 20000 in
theorem ggL_law_X12_wide : GoodIn wsL_law wsX12_wide := goodIn_r _ [871, 829, 110, 872, 873, 367, 874, 415, 416, 417, 5, 418, 387, 371, 372, 373, 854, 855, 856, 857, 858, 1201, 1202, 1203, 1204, 1205, 1206, 1207, 1208, 1209, 1210, 1211, 1212, 1213, 1214, 1215, 1216, 1217, 1218, 1219, 1220, 1221, 1222] rfl gwX12_wide
set_option maxRecDepth 20000 in
theorem gL_law_X12_wide : GoodIn wsL_law (wsV RL 125 RX12 yX12_wide wsX12_wide) := goodIn_app (goodIn_r _ [868, 869, 870, 5] rfl (by decide +kernel)) ggL_law_X12_wide
set_option maxRecDepth 20000 in
theorem gwX11_forged : wsX11_forged.all goodWord = true := by decide +kernel
set_option maxRecDepth 20000 in
theorem ggL_law_X11_forged : GoodIn wsL_law wsX11_forged := goodIn_r _ [878, 39, 128, 35, 495, 503, 129, 130, 131, 2, 132, 133, 134, 135, 136, 137, 138, 139, 140, 141, 142, 143, 508, 221, 222, 34, 223, 160, 358, 150, 151, 41, 152, 98, 1190, 1191, 1192, 1193, 1194, 1195, 1196, 1197, 1198, 1199, 1200, 1240, 1241, 1242, 1243, 1244, 1245, 1235, 1236, 1237, 1238, 1239, 1250, 1251, 1252, 1253, 1254, 1255, 1256, 1257, 1258, 1259, 1260, 1261, 1262, 1263, 1264] rfl gwX11_forged
set_option maxRecDepth 20000 in
theorem gL_law_X11_forged : GoodIn wsL_law (wsV RL 126 RX11 yX11_forged wsX11_forged) := goodIn_app (goodIn_r _ [875, 876, 877, 2] rfl (by decide +kernel)) ggL_law_X11_forged
set_option maxRecDepth 20000 in
theorem gwX12_forged : wsX12_forged.all goodWord = true := by decide +kernel
set_option maxRecDepth 20000 in
theorem ggL_law_X12_forged : GoodIn wsL_law wsX12_forged := goodIn_r _ [882, 118, 119, 110, 368, 369, 5, 370, 371, 372, 373, 378, 379, 380, 381, 116, 415, 416, 417, 418, 387, 1201, 1202, 1203, 1204, 1205, 1206, 1207, 1208, 1209, 1210, 1211, 1212, 1213, 1214, 1215, 1216, 1217, 1218, 1219, 1220, 1221, 1222] rfl gwX12_forged
set_option maxRecDepth 20000 in
theorem gL_law_X12_forged : GoodIn wsL_law (wsV RL 129 RX12 yX12_forged wsX12_forged) := goodIn_app (goodIn_r _ [879, 880, 881, 5] rfl (by decide +kernel)) ggL_law_X12_forged
set_option maxRecDepth 20000 in
theorem gwX11_judge : wsX11_judge.all goodWord = true := by decide +kernel
set_option maxRecDepth 20000 in
theorem ggL_law_X11_judge : GoodIn wsL_law wsX11_judge := goodIn_r _ [886, 36, 35, 39, 128, 129, 130, 131, 2, 132, 133, 134, 135, 136, 137, 138, 139, 140, 141, 142, 143, 156, 157, 158, 34, 159, 160, 161, 81, 162, 163, 164, 85, 165, 92, 166, 167, 168, 169, 170, 171, 172, 173, 174, 175, 90, 91, 176, 177, 766, 767, 768, 41, 769, 770, 771, 772, 150, 151, 152, 98, 358, 509, 300, 301, 302, 253, 303, 643, 246, 247, 248, 82, 83, 249, 250, 251, 252, 254, 255, 256, 257, 258, 259, 15, 260, 261, 262, 263, 264, 265, 266, 267, 268, 269, 270, 271, 272, 273, 30, 274, 275, 276, 277, 278, 279, 280, 234, 235, 236, 281, 282, 283, 284, 285, 286, 287, 288, 289, 290, 291, 292, 293, 294, 295, 296, 297, 298, 299, 304, 305, 306, 307, 308, 18, 309, 310, 311, 312, 313, 314, 315, 316, 317, 318, 319, 320, 27, 321, 322, 323, 324, 325, 326, 327, 24, 328, 329, 330, 331, 332, 333, 334, 335, 336, 337, 338, 339, 340, 341, 342, 343, 344, 345, 346, 347, 348, 349, 350, 351, 352, 353, 21, 354, 355, 356, 357, 1190, 1191, 1192, 1193, 1194, 1195, 1196, 1197, 1198, 1199, 1200, 1240, 1241, 1242, 1243, 1244, 1245, 1235, 1236, 1237, 1238, 1239, 1250, 1251, 1252, 1253, 1254, 1255, 1256, 1257, 1258, 1259, 1260, 1261, 1262, 1263, 1264] rfl gwX11_judge
set_option maxRecDepth 20000 in
theorem gL_law_X11_judge : GoodIn wsL_law (wsV RL 130 RX11 yX11_judge wsX11_judge) := goodIn_app (goodIn_r _ [883, 884, 885, 2] rfl (by decide +kernel)) ggL_law_X11_judge
set_option maxRecDepth 20000 in
theorem gwX12_judge : wsX12_judge.all goodWord = true := by decide +kernel
set_option maxRecDepth 20000 in
theorem ggL_law_X12_judge : GoodIn wsL_law wsX12_judge := goodIn_r _ [890, 114, 118, 119, 368, 369, 5, 370, 371, 372, 373, 378, 379, 380, 381, 116, 382, 383, 384, 385, 110, 111, 112, 386, 387, 781, 782, 783, 784, 117, 785, 467, 468, 469, 470, 471, 472, 473, 474, 431, 432, 433, 434, 435, 436, 437, 438, 439, 440, 441, 277, 278, 279, 442, 443, 444, 445, 446, 447, 448, 449, 423, 424, 425, 426, 450, 451, 452, 453, 454, 455, 456, 457, 458, 459, 460, 461, 462, 312, 313, 463, 464, 465, 466, 475, 476, 477, 478, 479, 480, 481, 482, 483, 484, 485, 486, 487, 488, 489, 490, 1201, 1202, 1203, 1204, 1205, 1206, 1207, 1208, 1209, 1210, 1211, 1212, 1213, 1214, 1215, 1216, 1217, 1218, 1219, 1220, 1221, 1222] rfl gwX12_judge
set_option maxRecDepth 20000 in
theorem gL_law_X12_judge : GoodIn wsL_law (wsV RL 133 RX12 yX12_judge wsX12_judge) := goodIn_app (goodIn_r _ [887, 888, 889, 5] rfl (by decide +kernel)) ggL_law_X12_judge
set_option maxRecDepth 20000 in
theorem gwX11_days : wsX11_days.all goodWord = true := by decide +kernel
set_option maxRecDepth 20000 in
theorem ggL_law_X11_days : GoodIn wsL_law wsX11_days := goodIn_r _ [894, 35, 532, 895, 36, 141, 142, 2, 143, 156, 157, 158, 34, 159, 160, 161, 81, 162, 163, 164, 85, 165, 92, 166, 167, 168, 169, 170, 171, 172, 173, 174, 175, 90, 91, 176, 177, 896, 897, 898, 899, 495, 553, 900, 901, 902, 903, 904, 905, 554, 217, 218, 219, 220, 221, 222, 223, 224, 225, 226, 227, 555, 229, 230, 231, 232, 233, 234, 235, 236, 578, 242, 243, 244, 245, 246, 247, 248, 82, 83, 249, 250, 251, 252, 253, 254, 255, 256, 257, 258, 259, 15, 260, 261, 262, 263, 264, 265, 266, 267, 268, 269, 270, 271, 272, 273, 30, 274, 275, 276, 277, 278, 279, 280, 281, 282, 283, 284, 285, 286, 287, 288, 289, 290, 291, 292, 293, 294, 295, 296, 297, 298, 299, 300, 301, 302, 303, 304, 305, 306, 307, 308, 18, 309, 310, 311, 312, 313, 314, 315, 316, 317, 318, 319, 320, 27, 321, 322, 323, 324, 325, 326, 327, 24, 328, 329, 330, 331, 332, 333, 334, 335, 336, 337, 338, 339, 340, 341, 342, 343, 344, 345, 346, 347, 348, 349, 350, 351, 352, 353, 21, 354, 355, 356, 357, 579, 580, 581, 582, 583, 584, 585, 586, 587, 906, 907, 908, 909, 910, 1190, 1191, 1192, 1193, 1194, 1195, 1196, 1197, 1198, 1199, 1200, 1235, 1236, 1237, 1238, 1239, 1250, 1251, 1252, 1253, 1254, 1255, 1256, 1257, 1258, 1259, 1260, 1261, 1262, 1263, 1264] rfl gwX11_days
set_option maxRecDepth 20000 in
theorem gL_law_X11_days : GoodIn wsL_law (wsV RL 134 RX11 yX11_days wsX11_days) := goodIn_app (goodIn_r _ [891, 892, 893, 2] rfl (by decide +kernel)) ggL_law_X11_days
set_option maxRecDepth 20000 in
theorem gwX12_days : wsX12_days.all goodWord = true := by decide +kernel
set_option maxRecDepth 20000 in
theorem ggL_law_X12_days : GoodIn wsL_law wsX12_days := goodIn_r _ [914, 387, 114, 915, 371, 372, 5, 373, 382, 383, 384, 385, 110, 111, 112, 386, 592, 593, 594, 595, 916, 917, 918, 919, 920, 921, 922, 923, 924, 925, 926, 927, 928, 929, 930, 419, 420, 421, 422, 423, 424, 425, 426, 608, 609, 610, 611, 431, 432, 433, 434, 435, 436, 437, 438, 439, 440, 441, 277, 278, 279, 442, 443, 444, 445, 446, 447, 448, 449, 450, 451, 452, 453, 454, 455, 456, 457, 458, 459, 460, 461, 462, 312, 313, 463, 464, 465, 466, 467, 468, 469, 470, 471, 472, 473, 474, 475, 476, 477, 478, 479, 480, 481, 482, 483, 484, 485, 486, 487, 488, 489, 490, 1201, 1202, 1203, 1204, 1205, 1206, 1207, 1208, 1209, 1210, 1211, 1212, 1213, 1214, 1215, 1216, 1217, 1218, 1219, 1220, 1221, 1222] rfl gwX12_days
set_option maxRecDepth 20000 in
theorem gL_law_X12_days : GoodIn wsL_law (wsV RL 137 RX12 yX12_days wsX12_days) := goodIn_app (goodIn_r _ [911, 912, 913, 5] rfl (by decide +kernel)) ggL_law_X12_days
set_option maxRecDepth 20000 in
theorem gwX11_image : wsX11_image.all goodWord = true := by decide +kernel
set_option maxRecDepth 20000 in
theorem ggL_law_X11_image : GoodIn wsL_law wsX11_image := goodIn_r _ [934, 37, 35, 935, 553, 156, 157, 158, 34, 159, 160, 161, 81, 162, 163, 164, 85, 165, 92, 166, 167, 168, 169, 170, 171, 172, 173, 174, 175, 90, 91, 176, 177, 1190, 1191, 1192, 1193, 1194, 1195, 1196, 1197, 1198, 1199, 1200, 1235, 1236, 1237, 1238, 1239, 1250, 1251, 1252, 1253, 1254, 1255, 1256, 1257, 1258, 1259, 1260, 1261, 1262, 1263, 1264] rfl gwX11_image
set_option maxRecDepth 20000 in
theorem gL_law_X11_image : GoodIn wsL_law (wsV RL 138 RX11 yX11_image wsX11_image) := goodIn_app (goodIn_r _ [931, 932, 933, 2] rfl (by decide +kernel)) ggL_law_X11_image
set_option maxRecDepth 20000 in
theorem gwX12_image : wsX12_image.all goodWord = true := by decide +kernel
set_option maxRecDepth 20000 in
theorem ggL_law_X12_image : GoodIn wsL_law wsX12_image := goodIn_r _ [939, 940, 115, 386, 382, 383, 384, 5, 385, 110, 111, 112, 387, 1201, 1202, 1203, 1204, 1205, 1206, 1207, 1208, 1209, 1210, 1211, 1212, 1213, 1214, 1215, 1216, 1217, 1218, 1219, 1220, 1221, 1222] rfl gwX12_image
set_option maxRecDepth 20000 in
theorem gL_law_X12_image : GoodIn wsL_law (wsV RL 142 RX12 yX12_image wsX12_image) := goodIn_app (goodIn_r _ [936, 937, 938, 5] rfl (by decide +kernel)) ggL_law_X12_image
set_option maxRecDepth 20000 in
theorem gwX11_restore : wsX11_restore.all goodWord = true := by decide +kernel
set_option maxRecDepth 20000 in
theorem ggL_law_X11_restore : GoodIn wsL_law wsX11_restore := goodIn_r _ [944, 935, 35, 37, 553, 156, 157, 158, 34, 159, 160, 161, 81, 162, 163, 164, 85, 165, 92, 166, 167, 168, 169, 170, 171, 172, 173, 174, 175, 90, 91, 176, 177, 1190, 1191, 1192, 1193, 1194, 1195, 1196, 1197, 1198, 1199, 1200, 1235, 1236, 1237, 1238, 1239, 1250, 1251, 1252, 1253, 1254, 1255, 1256, 1257, 1258, 1259, 1260, 1261, 1262, 1263, 1264] rfl gwX11_restore
set_option maxRecDepth 20000 in
theorem gL_law_X11_restore : GoodIn wsL_law (wsV RL 143 RX11 yX11_restore wsX11_restore) := goodIn_app (goodIn_r _ [941, 942, 943, 2] rfl (by decide +kernel)) ggL_law_X11_restore
set_option maxRecDepth 20000 in
theorem gwX12_restore : wsX12_restore.all goodWord = true := by decide +kernel
set_option maxRecDepth 20000 in
theorem ggL_law_X12_restore : GoodIn wsL_law wsX12_restore := goodIn_r _ [948, 940, 115, 386, 487, 488, 489, 5, 490, 110, 111, 112, 387, 1201, 1202, 1203, 1204, 1205, 1206, 1207, 1208, 1209, 1210, 1211, 1212, 1213, 1214, 1215, 1216, 1217, 1218, 1219, 1220, 1221, 1222] rfl gwX12_restore
set_option maxRecDepth 20000 in
theorem gL_law_X12_restore : GoodIn wsL_law (wsV RL 146 RX12 yX12_restore wsX12_restore) := goodIn_app (goodIn_r _ [945, 946, 947, 5] rfl (by decide +kernel)) ggL_law_X12_restore
set_option maxRecDepth 20000 in
theorem gwX11_count : wsX11_count.all goodWord = true := by decide +kernel
set_option maxRecDepth 20000 in
theorem ggL_law_X11_count : GoodIn wsL_law wsX11_count := goodIn_r _ [952, 35, 532, 553, 509, 300, 301, 34, 302, 160, 81, 253, 303, 953, 954, 955, 956, 634, 635, 636, 637, 638, 579, 580, 581, 582, 583, 584, 585, 586, 587, 957, 292, 293, 294, 295, 296, 297, 85, 298, 175, 176, 91, 1190, 1191, 1192, 1193, 1194, 1195, 1196, 1197, 1198, 1199, 1200, 1235, 1236, 1237, 1238, 1239, 1250, 1251, 1252, 1253, 1254, 1255, 1256, 1257, 1258, 1259, 1260, 1261, 1262, 1263, 1264] rfl gwX11_count
set_option maxRecDepth 20000 in
theorem gL_law_X11_count : GoodIn wsL_law (wsV RL 147 RX11 yX11_count wsX11_count) := goodIn_app (goodIn_r _ [949, 950, 951, 2] rfl (by decide +kernel)) ggL_law_X11_count
set_option maxRecDepth 20000 in
theorem gwX12_count : wsX12_count.all goodWord = true := by decide +kernel
set_option maxRecDepth 20000 in
theorem ggL_law_X12_count : GoodIn wsL_law wsX12_count := goodIn_r _ [961, 387, 386, 110, 467, 468, 469, 5, 470, 471, 472, 473, 474, 962, 963, 964, 965, 592, 593, 594, 595, 454, 455, 456, 457, 112, 1201, 1202, 1203, 1204, 1205, 1206, 1207, 1208, 1209, 1210, 1211, 1212, 1213, 1214, 1215, 1216, 1217, 1218, 1219, 1220, 1221, 1222] rfl gwX12_count
set_option maxRecDepth 20000 in
theorem gL_law_X12_count : GoodIn wsL_law (wsV RL 150 RX12 yX12_count wsX12_count) := goodIn_app (goodIn_r _ [958, 959, 960, 5] rfl (by decide +kernel)) ggL_law_X12_count
set_option maxRecDepth 20000 in
theorem gwX11_tray : wsX11_tray.all goodWord = true := by decide +kernel
set_option maxRecDepth 20000 in
theorem ggL_law_X11_tray : GoodIn wsL_law wsX11_tray := goodIn_r _ [969, 43, 31, 970, 971, 2, 972, 141, 142, 143, 973, 974, 975, 45, 976, 977, 105, 978, 104, 979, 980, 981, 982, 1190, 1191, 1192, 1193, 1194, 1195, 1196, 1197, 1198, 1199, 1200, 1246, 1247, 1248, 1249] rfl gwX11_tray
set_option maxRecDepth 20000 in
theorem gL_law_X11_tray : GoodIn wsL_law (wsV RL 151 RX11 yX11_tray wsX11_tray) := goodIn_app (goodIn_r _ [966, 967, 968, 2] rfl (by decide +kernel)) ggL_law_X11_tray
set_option maxRecDepth 20000 in
theorem gwX12_tray : wsX12_tray.all goodWord = true := by decide +kernel
set_option maxRecDepth 20000 in
theorem ggL_law_X12_tray : GoodIn wsL_law wsX12_tray := goodIn_r _ [986, 120, 121, 122, 987, 988, 5, 989, 371, 372, 373, 1201, 1202, 1203, 1204, 1205, 1206, 1207, 1208, 1209, 1210, 1211, 1212, 1213, 1214, 1215, 1216, 1217, 1218, 1219, 1220, 1221, 1222] rfl gwX12_tray
set_option maxRecDepth 20000 in
theorem gL_law_X12_tray : GoodIn wsL_law (wsV RL 154 RX12 yX12_tray wsX12_tray) := goodIn_app (goodIn_r _ [983, 984, 985, 5] rfl (by decide +kernel)) ggL_law_X12_tray
set_option maxRecDepth 20000 in
theorem gwX11_lays : wsX11_lays.all goodWord = true := by decide +kernel
set_option maxRecDepth 20000 in
theorem ggL_law_X11_lays : GoodIn wsL_law wsX11_lays := goodIn_r _ [993, 39, 137, 43, 994, 995, 533, 996, 497, 970, 971, 2, 972, 141, 142, 143, 138, 139, 140, 997, 998, 999, 45, 1000, 978, 1001, 1002, 1003, 1004, 15, 1005, 54, 55, 1006, 1007, 1008, 1009, 1010, 1011, 1190, 1191, 1192, 1193, 1194, 1195, 1196, 1197, 1198, 1199, 1200, 1240, 1241, 1242, 1243, 1244, 1245, 1246, 1247, 1248, 1249, 1225, 1226, 1223, 1224, 1231, 1232, 1227, 1228, 1229, 1230, 1233, 1234] rfl gwX11_lays
set_option maxRecDepth 20000 in
theorem gL_law_X11_lays : GoodIn wsL_law (wsV RL 155 RX11 yX11_lays wsX11_lays) := goodIn_app (goodIn_r _ [990, 991, 992, 2] rfl (by decide +kernel)) ggL_law_X11_lays
set_option maxRecDepth 20000 in
theorem gwX12_lays : wsX12_lays.all goodWord = true := by decide +kernel
set_option maxRecDepth 20000 in
theorem ggL_law_X12_lays : GoodIn wsL_law wsX12_lays := goodIn_r _ [1015, 116, 120, 121, 117, 122, 987, 988, 5, 989, 371, 372, 373, 368, 369, 370, 1016, 1017, 1018, 1201, 1202, 1203, 1204, 1205, 1206, 1207, 1208, 1209, 1210, 1211, 1212, 1213, 1214, 1215, 1216, 1217, 1218, 1219, 1220, 1221, 1222] rfl gwX12_lays
set_option maxRecDepth 20000 in
theorem gL_law_X12_lays : GoodIn wsL_law (wsV RL 158 RX12 yX12_lays wsX12_lays) := goodIn_app (goodIn_r _ [1012, 1013, 1014, 5] rfl (by decide +kernel)) ggL_law_X12_lays
set_option maxRecDepth 20000 in
theorem gwX11_laid : wsX11_laid.all goodWord = true := by decide +kernel
set_option maxRecDepth 20000 in
theorem ggL_law_X11_laid : GoodIn wsL_law wsX11_laid := goodIn_r _ [1022, 43, 994, 995, 970, 971, 2, 972, 141, 142, 143, 997, 998, 999, 45, 1000, 978, 1190, 1191, 1192, 1193, 1194, 1195, 1196, 1197, 1198, 1199, 1200, 1246, 1247, 1248, 1249] rfl gwX11_laid
set_option maxRecDepth 20000 in
theorem gL_law_X11_laid : GoodIn wsL_law (wsV RL 159 RX11 yX11_laid wsX11_laid) := goodIn_app (goodIn_r _ [1019, 1020, 1021, 2] rfl (by decide +kernel)) ggL_law_X11_laid
set_option maxRecDepth 20000 in
theorem gwX12_laid : wsX12_laid.all goodWord = true := by decide +kernel
set_option maxRecDepth 20000 in
theorem ggL_law_X12_laid : GoodIn wsL_law wsX12_laid := goodIn_r _ [1026, 120, 121, 122, 987, 988, 5, 989, 371, 372, 373, 1201, 1202, 1203, 1204, 1205, 1206, 1207, 1208, 1209, 1210, 1211, 1212, 1213, 1214, 1215, 1216, 1217, 1218, 1219, 1220, 1221, 1222] rfl gwX12_laid
set_option maxRecDepth 20000 in
theorem gL_law_X12_laid : GoodIn wsL_law (wsV RL 162 RX12 yX12_laid wsX12_laid) := goodIn_app (goodIn_r _ [1023, 1024, 1025, 5] rfl (by decide +kernel)) ggL_law_X12_laid
set_option maxRecDepth 20000 in
theorem gwX11_like : wsX11_like.all goodWord = true := by decide +kernel
set_option maxRecDepth 20000 in
theorem ggL_law_X11_like : GoodIn wsL_law wsX11_like := goodIn_r _ [1030, 43, 994, 1031, 970, 971, 2, 972, 141, 142, 143, 1032, 1033, 1034, 45, 1035, 977, 105, 978, 104, 1036, 1037, 1038, 1039, 1190, 1191, 1192, 1193, 1194, 1195, 1196, 1197, 1198, 1199, 1200, 1246, 1247, 1248, 1249] rfl gwX11_like
set_option maxRecDepth 20000 in
theorem gL_law_X11_like : GoodIn wsL_law (wsV RL 163 RX11 yX11_like wsX11_like) := goodIn_app (goodIn_r _ [1027, 1028, 1029, 2] rfl (by decide +kernel)) ggL_law_X11_like
set_option maxRecDepth 20000 in
theorem gwX12_like : wsX12_like.all goodWord = true := by decide +kernel
set_option maxRecDepth 20000 in
theorem ggL_law_X12_like : GoodIn wsL_law wsX12_like := goodIn_r _ [1043, 120, 121, 122, 987, 988, 5, 989, 371, 372, 373, 1201, 1202, 1203, 1204, 1205, 1206, 1207, 1208, 1209, 1210, 1211, 1212, 1213, 1214, 1215, 1216, 1217, 1218, 1219, 1220, 1221, 1222] rfl gwX12_like
set_option maxRecDepth 20000 in
theorem gL_law_X12_like : GoodIn wsL_law (wsV RL 166 RX12 yX12_like wsX12_like) := goodIn_app (goodIn_r _ [1040, 1041, 1042, 5] rfl (by decide +kernel)) ggL_law_X12_like
set_option maxRecDepth 20000 in
theorem gwX11_keep : wsX11_keep.all goodWord = true := by decide +kernel
set_option maxRecDepth 20000 in
theorem ggL_law_X11_keep : GoodIn wsL_law wsX11_keep := goodIn_r _ [1047, 39, 137, 31, 138, 139, 2, 140, 141, 142, 143, 1048, 1049, 1050, 41, 1051, 97, 99, 1052, 1190, 1191, 1192, 1193, 1194, 1195, 1196, 1197, 1198, 1199, 1200, 1240, 1241, 1242, 1243, 1244, 1245] rfl gwX11_keep
set_option maxRecDepth 20000 in
theorem gL_law_X11_keep : GoodIn wsL_law (wsV RL 167 RX11 yX11_keep wsX11_keep) := goodIn_app (goodIn_r _ [1044, 1045, 1046, 2] rfl (by decide +kernel)) ggL_law_X11_keep
set_option maxRecDepth 20000 in
theorem gwX12_keep_ : wsX12_keep_.all goodWord = true := by decide +kernel
set_option maxRecDepth 20000 in
theorem ggL_law_X12_keep_ : GoodIn wsL_law wsX12_keep_ := goodIn_r _ [1056, 116, 117, 118, 368, 369, 5, 370, 371, 372, 373, 1201, 1202, 1203, 1204, 1205, 1206, 1207, 1208, 1209, 1210, 1211, 1212, 1213, 1214, 1215, 1216, 1217, 1218, 1219, 1220, 1221, 1222] rfl gwX12_keep_
set_option maxRecDepth 20000 in
theorem gL_law_X12_keep_ : GoodIn wsL_law (wsV RL 171 RX12 yX12_keep_ wsX12_keep_) := goodIn_app (goodIn_r _ [1053, 1054, 1055, 5] rfl (by decide +kernel)) ggL_law_X12_keep_
set_option maxRecDepth 20000 in
theorem gwX11_row : wsX11_row.all goodWord = true := by decide +kernel
set_option maxRecDepth 20000 in
theorem ggL_law_X11_row : GoodIn wsL_law wsX11_row := goodIn_r _ [1060, 39, 138, 139, 2, 140, 141, 142, 143, 1061, 1062, 1063, 41, 1064, 97, 770, 1065, 98, 1066, 980, 981, 982, 1190, 1191, 1192, 1193, 1194, 1195, 1196, 1197, 1198, 1199, 1200, 1240, 1241, 1242, 1243, 1244, 1245] rfl gwX11_row
set_option maxRecDepth 20000 in
theorem gL_law_X11_row : GoodIn wsL_law (wsV RL 172 RX11 yX11_row wsX11_row) := goodIn_app (goodIn_r _ [1057, 1058, 1059, 2] rfl (by decide +kernel)) ggL_law_X11_row
set_option maxRecDepth 20000 in
theorem gwX12_row : wsX12_row.all goodWord = true := by decide +kernel
set_option maxRecDepth 20000 in
theorem ggL_law_X12_row : GoodIn wsL_law wsX12_row := goodIn_r _ [1070, 116, 117, 118, 119, 368, 369, 5, 370, 371, 372, 373, 1201, 1202, 1203, 1204, 1205, 1206, 1207, 1208, 1209, 1210, 1211, 1212, 1213, 1214, 1215, 1216, 1217, 1218, 1219, 1220, 1221, 1222] rfl gwX12_row
set_option maxRecDepth 20000 in
theorem gL_law_X12_row : GoodIn wsL_law (wsV RL 175 RX12 yX12_row wsX12_row) := goodIn_app (goodIn_r _ [1067, 1068, 1069, 5] rfl (by decide +kernel)) ggL_law_X12_row
set_option maxRecDepth 20000 in
theorem gwX11_put : wsX11_put.all goodWord = true := by decide +kernel
set_option maxRecDepth 20000 in
theorem ggL_law_X11_put : GoodIn wsL_law wsX11_put := goodIn_r _ [1074, 39, 129, 130, 131, 2, 132, 133, 134, 135, 136, 137, 138, 139, 140, 141, 142, 143, 1075, 1076, 1077, 41, 1078, 1065, 1079, 1080, 1081, 1082, 98, 770, 1190, 1191, 1192, 1193, 1194, 1195, 1196, 1197, 1198, 1199, 1200, 1240, 1241, 1242, 1243, 1244, 1245] rfl gwX11_put
set_option maxRecDepth 20000 in
theorem gL_law_X11_put : GoodIn wsL_law (wsV RL 176 RX11 yX11_put wsX11_put) := goodIn_app (goodIn_r _ [1071, 1072, 1073, 2] rfl (by decide +kernel)) ggL_law_X11_put
set_option maxRecDepth 20000 in
theorem gwX12_put : wsX12_put.all goodWord = true := by decide +kernel
set_option maxRecDepth 20000 in
theorem ggL_law_X12_put : GoodIn wsL_law wsX12_put := goodIn_r _ [1086, 118, 119, 117, 368, 369, 5, 370, 371, 372, 373, 378, 379, 380, 381, 116, 1201, 1202, 1203, 1204, 1205, 1206, 1207, 1208, 1209, 1210, 1211, 1212, 1213, 1214, 1215, 1216, 1217, 1218, 1219, 1220, 1221, 1222] rfl gwX12_put
set_option maxRecDepth 20000 in
theorem gL_law_X12_put : GoodIn wsL_law (wsV RL 179 RX12 yX12_put wsX12_put) := goodIn_app (goodIn_r _ [1083, 1084, 1085, 5] rfl (by decide +kernel)) ggL_law_X12_put
set_option maxRecDepth 20000 in
theorem ggL_law_L_element : GoodIn wsL_law wsL_element := goodIn_ca (goodIn_ca (goodIn_r _ [1090, 1091, 1092, 1093, 1094, 1095, 2, 1096, 1097, 1098, 1099, 1100, 39, 137, 138, 139, 140, 141, 142, 143, 1075, 1076, 1077, 41, 1078, 1065, 358, 150, 151, 152, 98, 1190, 1191, 1192, 1193, 1194, 1195, 1196, 1197, 1198, 1199, 1200, 1240, 1241, 1242, 1243, 1244, 1245] rfl (by decide +kernel)) (goodIn_sub (fun _ h => List.mem_append_left _ (List.mem_append_left _ (List.mem_append_left _ (List.mem_append_left _ (List.mem_append_right _ h))))) (by decide +kernel))) (goodIn_sub (fun _ h => List.mem_append_left _ (List.mem_append_left _ (List.mem_append_left _ (List.mem_append_right _ h)))) (by decide +kernel))
set_option maxRecDepth 20000 in
theorem gL_law_L_element : GoodIn wsL_law (va_wsS RL 180 yL_element wsL_element) := goodIn_app (goodIn_r _ [1087, 1088, 1089] rfl (by decide +kernel)) ggL_law_L_element
set_option maxRecDepth 20000 in
theorem gwX12_element : wsX12_element.all goodWord = true := by decide +kernel
set_option maxRecDepth 20000 in
theorem ggL_law_X12_element : GoodIn wsL_law wsX12_element := goodIn_r _ [1104, 116, 118, 1105, 119, 368, 369, 5, 370, 371, 372, 373, 1201, 1202, 1203, 1204, 1205, 1206, 1207, 1208, 1209, 1210, 1211, 1212, 1213, 1214, 1215, 1216, 1217, 1218, 1219, 1220, 1221, 1222] rfl gwX12_element
set_option maxRecDepth 20000 in
theorem gL_law_X12_element : GoodIn wsL_law (wsV RL 185 RX12 yX12_element wsX12_element) := goodIn_app (goodIn_r _ [1101, 1102, 1103, 5] rfl (by decide +kernel)) ggL_law_X12_element
set_option maxRecDepth 20000 in
theorem gwX12_thrown : wsX12_thrown.all goodWord = true := by decide +kernel
set_option maxRecDepth 20000 in
theorem ggL_law_X12_thrown : GoodIn wsL_law wsX12_thrown := goodIn_r _ [1109, 1105, 1201, 1202, 1203, 1204, 1205, 1206, 1207, 1208, 1209, 1210, 1211, 1212, 1213, 1214, 1215, 1216, 1217, 1218, 1219, 1220, 1221, 1222] rfl gwX12_thrown
set_option maxRecDepth 20000 in
theorem gL_law_X12_thrown : GoodIn wsL_law (wsV RL 186 RX12 yX12_thrown wsX12_thrown) := goodIn_app (goodIn_r _ [1106, 1107, 1108, 5] rfl (by decide +kernel)) ggL_law_X12_thrown
set_option maxRecDepth 20000 in
theorem gwX11_copy : wsX11_copy.all goodWord = true := by decide +kernel
set_option maxRecDepth 20000 in
theorem ggL_law_X11_copy : GoodIn wsL_law wsX11_copy := goodIn_r _ [1113, 39, 137, 127, 1114, 1115, 1037, 1038, 1039, 138, 139, 2, 140, 141, 142, 143, 1075, 1076, 1077, 41, 1078, 1065, 1190, 1191, 1192, 1193, 1194, 1195, 1196, 1197, 1198, 1199, 1200, 1240, 1241, 1242, 1243, 1244, 1245] rfl gwX11_copy
set_option maxRecDepth 20000 in
theorem gL_law_X11_copy : GoodIn wsL_law (wsV RL 189 RX11 yX11_copy wsX11_copy) := goodIn_app (goodIn_r _ [1110, 1111, 1112, 2] rfl (by decide +kernel)) ggL_law_X11_copy
set_option maxRecDepth 20000 in
theorem gwX12_copy : wsX12_copy.all goodWord = true := by decide +kernel
set_option maxRecDepth 20000 in
theorem ggL_law_X12_copy : GoodIn wsL_law wsX12_copy := goodIn_r _ [1119, 116, 117, 118, 119, 368, 369, 5, 370, 371, 372, 373, 1201, 1202, 1203, 1204, 1205, 1206, 1207, 1208, 1209, 1210, 1211, 1212, 1213, 1214, 1215, 1216, 1217, 1218, 1219, 1220, 1221, 1222] rfl gwX12_copy
set_option maxRecDepth 20000 in
theorem gL_law_X12_copy : GoodIn wsL_law (wsV RL 193 RX12 yX12_copy wsX12_copy) := goodIn_app (goodIn_r _ [1116, 1117, 1118, 5] rfl (by decide +kernel)) ggL_law_X12_copy
set_option maxRecDepth 20000 in
theorem gwX11_cost : wsX11_cost.all goodWord = true := by decide +kernel
set_option maxRecDepth 20000 in
theorem ggL_law_X11_cost : GoodIn wsL_law wsX11_cost := goodIn_r _ [1123, 39, 533, 534, 536, 537, 538, 2, 539, 133, 134, 135, 136, 137, 138, 139, 140, 141, 142, 143, 1124, 1125, 1126, 1127, 1128, 18, 1129, 1130, 1131, 1132, 1133, 15, 1134, 1135, 27, 1136, 1137, 1138, 21, 1139, 1140, 1141, 24, 1142, 1143, 1144, 333, 1145, 1146, 30, 1147, 1148, 1149, 1150, 1190, 1191, 1192, 1193, 1194, 1195, 1196, 1197, 1198, 1199, 1200, 1240, 1241, 1242, 1243, 1244, 1245] rfl gwX11_cost
set_option maxRecDepth 20000 in
theorem gL_law_X11_cost : GoodIn wsL_law (wsV RL 194 RX11 yX11_cost wsX11_cost) := goodIn_app (goodIn_r _ [1120, 1121, 1122, 2] rfl (by decide +kernel)) ggL_law_X11_cost
set_option maxRecDepth 20000 in
theorem gwX12_cost : wsX12_cost.all goodWord = true := by decide +kernel
set_option maxRecDepth 20000 in
theorem ggL_law_X12_cost : GoodIn wsL_law wsX12_cost := goodIn_r _ [1154, 368, 369, 5, 370, 371, 372, 373, 545, 546, 547, 548, 116, 1155, 1156, 1157, 1158, 117, 118, 1201, 1202, 1203, 1204, 1205, 1206, 1207, 1208, 1209, 1210, 1211, 1212, 1213, 1214, 1215, 1216, 1217, 1218, 1219, 1220, 1221, 1222] rfl gwX12_cost
set_option maxRecDepth 20000 in
theorem gL_law_X12_cost : GoodIn wsL_law (wsV RL 197 RX12 yX12_cost wsX12_cost) := goodIn_app (goodIn_r _ [1151, 1152, 1153, 5] rfl (by decide +kernel)) ggL_law_X12_cost
set_option maxRecDepth 20000 in
theorem ggL_law_X11_toss : GoodIn wsL_law wsX11_toss := goodIn_ca (goodIn_ca (goodIn_ca (goodIn_r _ [1162, 1099, 1097, 1163, 39, 533, 534, 536, 537, 538, 2, 539, 133, 134, 135, 136, 137, 138, 139, 140, 141, 142, 143, 1164, 1165, 1166, 1167, 1168, 18, 1169, 1170, 1098, 1171, 1172, 1173, 1174, 15, 1175, 1100, 1176, 1177, 1178, 21, 1179, 1180, 1181, 1182, 30, 1183, 1184, 1185, 1124, 1125, 1126, 1127, 1128, 1129, 1130, 1131, 1132, 1133, 1134, 1135, 27, 1136, 1137, 1138, 1139, 1140, 1141, 24, 1142, 1143, 1144, 333, 1145, 1146, 1147, 1148, 1149, 1150, 1190, 1191, 1192, 1193, 1194, 1195, 1196, 1197, 1198, 1199, 1200, 1240, 1241, 1242, 1243, 1244, 1245] rfl (by decide +kernel)) (goodIn_sub (fun _ h => List.mem_append_left _ (List.mem_append_left _ (List.mem_append_right _ h))) (by decide +kernel))) (goodIn_sub (fun _ h => List.mem_append_left _ (List.mem_append_right _ h)) (by decide +kernel))) (goodIn_sub (fun _ h => List.mem_append_right _ h) (by decide +kernel))
set_option maxRecDepth 20000 in
theorem gL_law_X11_toss : GoodIn wsL_law (wsV RL 198 RX11 yX11_toss wsX11_toss) := goodIn_app (goodIn_r _ [1159, 1160, 1161, 2] rfl (by decide +kernel)) ggL_law_X11_toss
set_option maxRecDepth 20000 in
theorem gwX12_toss : wsX12_toss.all goodWord = true := by decide +kernel
set_option maxRecDepth 20000 in
theorem ggL_law_X12_toss : GoodIn wsL_law wsX12_toss := goodIn_r _ [1189, 117, 118, 368, 369, 5, 370, 371, 372, 373, 545, 546, 547, 548, 116, 1155, 1156, 1157, 1158, 1201, 1202, 1203, 1204, 1205, 1206, 1207, 1208, 1209, 1210, 1211, 1212, 1213, 1214, 1215, 1216, 1217, 1218, 1219, 1220, 1221, 1222] rfl gwX12_toss
set_option maxRecDepth 20000 in
theorem gL_law_X12_toss : GoodIn wsL_law (wsV RL 201 RX12 yX12_toss wsX12_toss) := goodIn_app (goodIn_r _ [1186, 1187, 1188, 5] rfl (by decide +kernel)) ggL_law_X12_toss
