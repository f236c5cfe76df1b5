set_option maxRecDepth 20000 in
theorem ggL_law_X9_init : GoodIn wsL_law wsX9_init := goodIn_r _ [9, 10, 11, 12, 13, 14, 15, 16, 17, 18, 19, 20, 21, 22, 23, 24, 25, 26, 27, 28, 29, 30, 31, 32, 33, 34, 35, 36, 37, 38, 39, 40, 41, 42, 43, 44, 45, 46, 47, 48, 49, 50, 51, 52, 53, 54, 55, 56, 57, 58, 59, 60, 61, 62, 63, 64, 65, 66, 67, 68, 69, 70, 71, 72, 73, 74, 75, 76, 77, 78, 79, 80, 81, 82, 83, 84, 889, 890, 839, 840, 841, 842, 843, 844, 845, 846, 847, 848, 849, 850, 891, 892, 893, 894, 895, 896, 897, 898, 899, 900, 901, 902, 903, 904, 905, 906, 907, 908, 909, 910, 911, 912, 913, 914, 915, 916, 917, 918, 919, 920] (by decide +kernel) (by decide +kernel)
set_option maxRecDepth 20000 in
theorem gL_law_X9_init : GoodIn wsL_law (wsX9_init) := ggL_law_X9_init
set_option maxRecDepth 20000 in
theorem ggL_law_X10_init : GoodIn wsL_law wsX10_init := goodIn_r _ [87, 88, 11, 12, 45, 89, 90, 91, 92, 93, 94, 95, 96, 97, 98, 99, 100, 101, 102, 103, 104, 105, 106, 107, 108, 109, 851, 852, 853, 854, 855, 856, 857, 858, 859, 860, 861, 862, 863, 864, 865, 866, 867, 868, 869, 870, 871, 872, 873, 874, 875, 876, 877, 878, 879, 880, 881, 882, 883, 884, 885, 886, 887, 888] (by decide +kernel) (by decide +kernel)
set_option maxRecDepth 20000 in
theorem gL_law_X10_init : GoodIn wsL_law (wsX10_init) := ggL_law_X10_init
set_option maxRecDepth 20000 in
theorem ggL_law_X9_letters : GoodIn wsL_law wsX9_letters := goodIn_r _ [113, 16, 114, 115, 116, 15, 117, 118, 46, 119, 120, 121, 122, 123, 124, 125, 839, 840, 841, 842, 843, 844, 845, 846, 847, 848, 849, 850, 889, 890] (by decide +kernel) (by decide +kernel)
set_option maxRecDepth 20000 in
theorem gL_law_X9_letters : GoodIn wsL_law (wsV RL 15 RX9 yX9_letters wsX9_letters) := goodIn_app (goodIn_of _ (by decide +kernel)) ggL_law_X9_letters
set_option maxRecDepth 20000 in
theorem ggL_law_X10_letters : GoodIn wsL_law wsX10_letters := goodIn_r _ [129, 130, 131, 98, 851, 852, 853, 854, 855, 856, 857, 858, 859, 860, 861, 862, 863, 864, 865, 866, 867, 868, 869, 870, 871, 872, 873, 874, 875, 876, 877, 878, 879, 880, 881, 882, 883, 884, 885, 886, 887, 888] (by decide +kernel) (by decide +kernel)
set_option maxRecDepth 20000 in
theorem gL_law_X10_letters : GoodIn wsL_law (wsV RL 19 RX10 yX10_letters wsX10_letters) := goodIn_app (goodIn_of _ (by decide +kernel)) ggL_law_X10_letters
set_option maxRecDepth 20000 in
theorem ggL_law_X9_blank : GoodIn wsL_law wsX9_blank := goodIn_r _ [135, 16, 136, 137, 138, 15, 139, 118, 839, 840, 841, 842, 843, 844, 845, 846, 847, 848, 849, 850, 889, 890] (by decide +kernel) (by decide +kernel)
set_option maxRecDepth 20000 in
theorem gL_law_X9_blank : GoodIn wsL_law (wsV RL 20 RX9 yX9_blank wsX9_blank) := goodIn_app (goodIn_of _ (by decide +kernel)) ggL_law_X9_blank
set_option maxRecDepth 20000 in
theorem ggL_law_X10_blank : GoodIn wsL_law wsX10_blank := goodIn_r _ [143, 131, 851, 852, 853, 854, 855, 856, 857, 858, 859, 860, 861, 862, 863, 864, 865, 866, 867, 868, 869, 870, 871, 872, 873, 874, 875, 876, 877, 878, 879, 880, 881, 882, 883, 884, 885, 886, 887, 888] (by decide +kernel) (by decide +kernel)
set_option maxRecDepth 20000 in
theorem gL_law_X10_blank : GoodIn wsL_law (wsV RL 24 RX10 yX10_blank wsX10_blank) := goodIn_app (goodIn_of _ (by decide +kernel)) ggL_law_X10_blank
set_option maxRecDepth 20000 in
theorem ggL_law_X9_fault : GoodIn wsL_law wsX9_fault := goodIn_r _ [147, 39, 16, 148, 149, 150, 37, 151, 76, 152, 153, 154, 155, 156, 157, 158, 159, 160, 161, 162, 163, 77, 78, 79, 164, 165, 166, 167, 168, 169, 170, 171, 172, 173, 174, 175, 176, 2, 177, 178, 179, 180, 181, 182, 183, 184, 185, 186, 187, 839, 840, 841, 842, 843, 844, 845, 846, 847, 848, 849, 850, 913, 914, 915, 916, 917, 918, 889, 890] (by decide +kernel) (by decide +kernel)
set_option maxRecDepth 20000 in
theorem gL_law_X9_fault : GoodIn wsL_law (wsV RL 25 RX9 yX9_fault wsX9_fault) := goodIn_app (goodIn_of _ (by decide +kernel)) ggL_law_X9_fault
set_option maxRecDepth 20000 in
theorem ggL_law_X10_fault : GoodIn wsL_law wsX10_fault := goodIn_r _ [191, 192, 193, 194, 195, 5, 196, 197, 99, 131, 98, 198, 199, 200, 201, 202, 100, 101, 102, 203, 204, 205, 206, 207, 208, 851, 852, 853, 854, 855, 856, 857, 858, 859, 860, 861, 862, 863, 864, 865, 866, 867, 868, 869, 870, 871, 872, 873, 874, 875, 876, 877, 878, 879, 880, 881, 882, 883, 884, 885, 886, 887, 888] (by decide +kernel) (by decide +kernel)
set_option maxRecDepth 20000 in
theorem gL_law_X10_fault : GoodIn wsL_law (wsV RL 28 RX10 yX10_fault wsX10_fault) := goodIn_app (goodIn_of _ (by decide +kernel)) ggL_law_X10_fault
set_option maxRecDepth 20000 in
theorem ggL_law_X9_law : GoodIn wsL_law wsX9_law := goodIn_r _ [212, 39, 16, 213, 38, 30, 214, 34, 215, 216, 217, 218, 148, 149, 150, 37, 151, 76, 152, 153, 154, 155, 156, 157, 158, 159, 160, 161, 162, 163, 77, 78, 79, 164, 165, 166, 167, 168, 169, 170, 171, 172, 173, 174, 175, 176, 2, 177, 178, 179, 180, 181, 182, 183, 184, 185, 186, 187, 219, 220, 221, 222, 136, 137, 138, 15, 139, 118, 223, 224, 225, 226, 227, 228, 229, 230, 231, 232, 233, 839, 840, 841, 842, 843, 844, 845, 846, 847, 848, 849, 850, 889, 890, 901, 902, 903, 904, 905, 906, 907, 908, 909, 910, 911, 912, 913, 914, 915, 916, 917, 918] (by decide +kernel) (by decide +kernel)
set_option maxRecDepth 20000 in
theorem gL_law_X9_law : GoodIn wsL_law (wsV RL 29 RX9 yX9_law wsX9_law) := goodIn_app (goodIn_of _ (by decide +kernel)) ggL_law_X9_law
set_option maxRecDepth 20000 in
theorem ggL_law_X10_law : GoodIn wsL_law wsX10_law := goodIn_r _ [237, 198, 89, 99, 90, 100, 91, 101, 92, 102, 238, 239, 240, 241, 95, 242, 131, 193, 194, 195, 5, 196, 197, 98, 192, 199, 200, 201, 202, 203, 204, 205, 206, 207, 208, 243, 244, 245, 851, 852, 853, 854, 855, 856, 857, 858, 859, 860, 861, 862, 863, 864, 865, 866, 867, 868, 869, 870, 871, 872, 873, 874, 875, 876, 877, 878, 879, 880, 881, 882, 883, 884, 885, 886, 887, 888] (by decide +kernel) (by decide +kernel)
set_option maxRecDepth 20000 in
theorem gL_law_X10_law : GoodIn wsL_law (wsV RL 32 RX10 yX10_law wsX10_law) := goodIn_app (goodIn_of _ (by decide +kernel)) ggL_law_X10_law
set_option maxRecDepth 20000 in
theorem ggL_law_X9_town : GoodIn wsL_law wsX9_town := goodIn_r _ [249, 38, 250, 251, 252, 253, 254, 255, 2, 256, 257, 258, 259, 260, 218, 261, 262, 263, 264, 216, 18, 265, 266, 267, 268, 269, 839, 840, 841, 842, 843, 844, 845, 846, 847, 848, 849, 850, 913, 914, 915, 916, 917, 918, 919, 920] (by decide +kernel) (by decide +kernel)
set_option maxRecDepth 20000 in
theorem gL_law_X9_town : GoodIn wsL_law (wsV RL 33 RX9 yX9_town wsX9_town) := goodIn_app (goodIn_of _ (by decide +kernel)) ggL_law_X9_town
set_option maxRecDepth 20000 in
theorem ggL_law_X10_town : GoodIn wsL_law wsX10_town := goodIn_r _ [273, 238, 274, 275, 5, 276, 203, 204, 205, 277, 278, 279, 280, 89, 90, 91, 92, 240, 94, 281, 282, 283, 851, 852, 853, 854, 855, 856, 857, 858, 859, 860, 861, 862, 863, 864, 865, 866, 867, 868, 869, 870, 871, 872, 873, 874, 875, 876, 877, 878, 879, 880, 881, 882, 883, 884, 885, 886, 887, 888] (by decide +kernel) (by decide +kernel)
set_option maxRecDepth 20000 in
theorem gL_law_X10_town : GoodIn wsL_law (wsV RL 37 RX10 yX10_town wsX10_town) := goodIn_app (goodIn_of _ (by decide +kernel)) ggL_law_X10_town
set_option maxRecDepth 20000 in
theorem ggL_law_X9_price : GoodIn wsL_law wsX9_price := goodIn_r _ [287, 38, 252, 254, 255, 2, 256, 288, 182, 183, 257, 258, 259, 260, 218, 839, 840, 841, 842, 843, 844, 845, 846, 847, 848, 849, 850, 913, 914, 915, 916, 917, 918] (by decide +kernel) (by decide +kernel)
set_option maxRecDepth 20000 in
theorem gL_law_X9_price : GoodIn wsL_law (wsV RL 38 RX9 yX9_price wsX9_price) := goodIn_app (goodIn_of _ (by decide +kernel)) ggL_law_X9_price
set_option maxRecDepth 20000 in
theorem ggL_law_X10_price : GoodIn wsL_law wsX10_price := goodIn_r _ [292, 238, 91, 274, 275, 5, 276, 203, 204, 205, 851, 852, 853, 854, 855, 856, 857, 858, 859, 860, 861, 862, 863, 864, 865, 866, 867, 868, 869, 870, 871, 872, 873, 874, 875, 876, 877, 878, 879, 880, 881, 882, 883, 884, 885, 886, 887, 888] (by decide +kernel) (by decide +kernel)
set_option maxRecDepth 20000 in
theorem gL_law_X10_price : GoodIn wsL_law (wsV RL 41 RX10 yX10_price wsX10_price) := goodIn_app (goodIn_of _ (by decide +kernel)) ggL_law_X10_price
set_option maxRecDepth 20000 in
theorem ggL_law_X9_person : GoodIn wsL_law wsX9_person := goodIn_r _ [296, 216, 18, 297, 298, 265, 254, 255, 2, 256, 299, 300, 301, 257, 258, 259, 260, 218, 839, 840, 841, 842, 843, 844, 845, 846, 847, 848, 849, 850, 919, 920] (by decide +kernel) (by decide +kernel)
set_option maxRecDepth 20000 in
theorem gL_law_X9_person : GoodIn wsL_law (wsV RL 42 RX9 yX9_person wsX9_person) := goodIn_app (goodIn_of _ (by decide +kernel)) ggL_law_X9_person
set_option maxRecDepth 20000 in
theorem ggL_law_X10_person : GoodIn wsL_law wsX10_person := goodIn_r _ [305, 238, 240, 93, 94, 274, 275, 5, 276, 203, 204, 205, 851, 852, 853, 854, 855, 856, 857, 858, 859, 860, 861, 862, 863, 864, 865, 866, 867, 868, 869, 870, 871, 872, 873, 874, 875, 876, 877, 878, 879, 880, 881, 882, 883, 884, 885, 886, 887, 888] (by decide +kernel) (by decide +kernel)
set_option maxRecDepth 20000 in
theorem gL_law_X10_person : GoodIn wsL_law (wsV RL 45 RX10 yX10_person wsX10_person) := goodIn_app (goodIn_of _ (by decide +kernel)) ggL_law_X10_person
set_option maxRecDepth 20000 in
theorem ggL_law_X9_about : GoodIn wsL_law wsX9_about := goodIn_r _ [309, 18, 265, 298, 310, 38, 252, 253, 311, 312, 313, 2, 314, 216, 266, 267, 268, 269, 315, 316, 317, 318, 319, 320, 321, 322, 323, 324, 325, 326, 327, 328, 329, 330, 331, 332, 333, 334, 335, 336, 337, 338, 339, 176, 177, 340, 839, 840, 841, 842, 843, 844, 845, 846, 847, 848, 849, 850, 919, 920, 913, 914, 915, 916, 917, 918] (by decide +kernel) (by decide +kernel)
set_option maxRecDepth 20000 in
theorem gL_law_X9_about : GoodIn wsL_law (wsV RL 46 RX9 yX9_about wsX9_about) := goodIn_app (goodIn_of _ (by decide +kernel)) ggL_law_X9_about
set_option maxRecDepth 20000 in
theorem ggL_law_X10_about : GoodIn wsL_law wsX10_about := goodIn_r _ [344, 345, 346, 347, 5, 348, 240, 203, 204, 205, 349, 350, 351, 352, 94, 93, 281, 282, 283, 353, 354, 355, 356, 357, 358, 359, 360, 361, 362, 363, 364, 365, 366, 367, 368, 369, 370, 371, 91, 372, 373, 374, 375, 92, 851, 852, 853, 854, 855, 856, 857, 858, 859, 860, 861, 862, 863, 864, 865, 866, 867, 868, 869, 870, 871, 872, 873, 874, 875, 876, 877, 878, 879, 880, 881, 882, 883, 884, 885, 886, 887, 888] (by decide +kernel) (by decide +kernel)
set_option maxRecDepth 20000 in
theorem gL_law_X10_about : GoodIn wsL_law (wsV RL 49 RX10 yX10_about wsX10_about) := goodIn_app (goodIn_of _ (by decide +kernel)) ggL_law_X10_about
set_option maxRecDepth 20000 in
theorem ggL_law_X9_as : GoodIn wsL_law wsX9_as := goodIn_r _ [379, 18, 298, 297, 311, 312, 313, 2, 314, 216, 299, 300, 301, 380, 381, 382, 327, 383, 384, 385, 386, 839, 840, 841, 842, 843, 844, 845, 846, 847, 848, 849, 850, 919, 920] (by decide +kernel) (by decide +kernel)
set_option maxRecDepth 20000 in
theorem gL_law_X9_as : GoodIn wsL_law (wsV RL 50 RX9 yX9_as wsX9_as) := goodIn_app (goodIn_of _ (by decide +kernel)) ggL_law_X9_as
set_option maxRecDepth 20000 in
theorem ggL_law_X10_as : GoodIn wsL_law wsX10_as := goodIn_r _ [390, 93, 345, 346, 347, 5, 348, 240, 203, 204, 205, 851, 852, 853, 854, 855, 856, 857, 858, 859, 860, 861, 862, 863, 864, 865, 866, 867, 868, 869, 870, 871, 872, 873, 874, 875, 876, 877, 878, 879, 880, 881, 882, 883, 884, 885, 886, 887, 888] (by decide +kernel) (by decide +kernel)
set_option maxRecDepth 20000 in
theorem gL_law_X10_as : GoodIn wsL_law (wsV RL 53 RX10 yX10_as wsX10_as) := goodIn_app (goodIn_of _ (by decide +kernel)) ggL_law_X10_as
set_option maxRecDepth 20000 in
theorem ggL_law_X9_purse : GoodIn wsL_law wsX9_purse := goodIn_r _ [394, 18, 265, 311, 312, 313, 2, 314, 216, 339, 176, 177, 340, 322, 268, 323, 395, 396, 397, 839, 840, 841, 842, 843, 844, 845, 846, 847, 848, 849, 850, 919, 920] (by decide +kernel) (by decide +kernel)
set_option maxRecDepth 20000 in
theorem gL_law_X9_purse : GoodIn wsL_law (wsV RL 54 RX9 yX9_purse wsX9_purse) := goodIn_app (goodIn_of _ (by decide +kernel)) ggL_law_X9_purse
set_option maxRecDepth 20000 in
theorem ggL_law_X10_purse : GoodIn wsL_law wsX10_purse := goodIn_r _ [401, 94, 345, 346, 347, 5, 348, 240, 203, 204, 205, 274, 275, 276, 359, 360, 361, 362, 363, 364, 365, 366, 367, 402, 403, 404, 851, 852, 853, 854, 855, 856, 857, 858, 859, 860, 861, 862, 863, 864, 865, 866, 867, 868, 869, 870, 871, 872, 873, 874, 875, 876, 877, 878, 879, 880, 881, 882, 883, 884, 885, 886, 887, 888] (by decide +kernel) (by decide +kernel)
set_option maxRecDepth 20000 in
theorem gL_law_X10_purse : GoodIn wsL_law (wsV RL 58 RX10 yX10_purse wsX10_purse) := goodIn_app (goodIn_of _ (by decide +kernel)) ggL_law_X10_purse
set_option maxRecDepth 20000 in
theorem ggL_law_X9_may : GoodIn wsL_law wsX9_may := goodIn_r _ [408, 18, 265, 311, 312, 313, 2, 314, 216, 409, 410, 411, 412, 413, 414, 415, 416, 22, 38, 298, 417, 418, 419, 21, 420, 50, 421, 51, 422, 52, 423, 53, 424, 425, 426, 325, 326, 327, 328, 329, 330, 331, 332, 333, 427, 335, 336, 337, 338, 428, 429, 430, 431, 432, 433, 434, 435, 267, 268, 269, 436, 437, 438, 439, 440, 441, 442, 443, 444, 445, 446, 322, 323, 447, 448, 449, 450, 451, 396, 397, 452, 453, 454, 455, 456, 457, 458, 839, 840, 841, 842, 843, 844, 845, 846, 847, 848, 849, 850, 919, 920, 891, 892, 893, 894, 913, 914, 915, 916, 917, 918] (by decide +kernel) (by decide +kernel)
set_option maxRecDepth 20000 in
theorem gL_law_X9_may : GoodIn wsL_law (wsV RL 59 RX9 yX9_may wsX9_may) := goodIn_app (goodIn_of _ (by decide +kernel)) ggL_law_X9_may
set_option maxRecDepth 20000 in
theorem ggL_law_X10_may : GoodIn wsL_law wsX10_may := goodIn_r _ [462, 93, 94, 345, 346, 347, 5, 348, 240, 203, 204, 205, 463, 464, 465, 466, 467, 468, 469, 90, 281, 282, 283, 470, 471, 472, 473, 89, 206, 207, 208, 353, 354, 355, 359, 360, 361, 362, 363, 364, 365, 366, 367, 368, 369, 370, 371, 91, 402, 403, 404, 372, 373, 374, 375, 92, 851, 852, 853, 854, 855, 856, 857, 858, 859, 860, 861, 862, 863, 864, 865, 866, 867, 868, 869, 870, 871, 872, 873, 874, 875, 876, 877, 878, 879, 880, 881, 882, 883, 884, 885, 886, 887, 888] (by decide +kernel) (by decide +kernel)
set_option maxRecDepth 20000 in
theorem gL_law_X10_may : GoodIn wsL_law (wsV RL 62 RX10 yX10_may wsX10_may) := goodIn_app (goodIn_of _ (by decide +kernel)) ggL_law_X10_may
set_option maxRecDepth 20000 in
theorem ggL_law_X9_act : GoodIn wsL_law wsX9_act := goodIn_r _ [477, 18, 265, 217, 311, 312, 313, 2, 314, 216, 409, 410, 411, 412, 413, 414, 415, 416, 22, 38, 298, 417, 418, 419, 21, 420, 50, 421, 51, 422, 52, 423, 53, 424, 425, 426, 325, 326, 327, 328, 329, 330, 331, 332, 333, 427, 335, 336, 337, 338, 428, 429, 430, 431, 432, 433, 434, 435, 267, 268, 269, 436, 437, 438, 439, 440, 441, 442, 443, 444, 445, 446, 322, 323, 447, 448, 449, 450, 451, 396, 397, 452, 453, 454, 455, 456, 457, 458, 318, 319, 320, 321, 839, 840, 841, 842, 843, 844, 845, 846, 847, 848, 849, 850, 919, 920, 891, 892, 893, 894, 913, 914, 915, 916, 917, 918] (by decide +kernel) (by decide +kernel)
set_option maxRecDepth 20000 in
theorem gL_law_X9_act : GoodIn wsL_law (wsV RL 63 RX9 yX9_act wsX9_act) := goodIn_app (goodIn_of _ (by decide +kernel)) ggL_law_X9_act
set_option maxRecDepth 20000 in
theorem ggL_law_X10_act : GoodIn wsL_law wsX10_act := goodIn_r _ [481, 93, 94, 241, 345, 346, 347, 5, 348, 240, 203, 204, 205, 463, 464, 465, 466, 467, 468, 469, 90, 281, 282, 283, 470, 471, 472, 473, 89, 206, 207, 208, 353, 354, 355, 359, 360, 361, 362, 363, 364, 365, 366, 367, 368, 369, 370, 371, 91, 402, 403, 404, 372, 373, 374, 375, 92, 356, 357, 358, 851, 852, 853, 854, 855, 856, 857, 858, 859, 860, 861, 862, 863, 864, 865, 866, 867, 868, 869, 870, 871, 872, 873, 874, 875, 876, 877, 878, 879, 880, 881, 882, 883, 884, 885, 886, 887, 888] (by decide +kernel) (by decide +kernel)
set_option maxRecDepth 20000 in
theorem gL_law_X10_act : GoodIn wsL_law (wsV RL 66 RX10 yX10_act wsX10_act) := goodIn_app (goodIn_of _ (by decide +kernel)) ggL_law_X10_act
set_option maxRecDepth 20000 in
theorem ggL_law_X9_change : GoodIn wsL_law wsX9_change := goodIn_r _ [485, 18, 265, 311, 312, 313, 2, 314, 216, 339, 176, 177, 266, 267, 268, 269, 486, 487, 488, 41, 489, 490, 491, 322, 323, 492, 493, 494, 495, 496, 396, 397, 340, 839, 840, 841, 842, 843, 844, 845, 846, 847, 848, 849, 850, 919, 920] (by decide +kernel) (by decide +kernel)
set_option maxRecDepth 20000 in
theorem gL_law_X9_change : GoodIn wsL_law (wsV RL 67 RX9 yX9_change wsX9_change) := goodIn_app (goodIn_of _ (by decide +kernel)) ggL_law_X9_change
