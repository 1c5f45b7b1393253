set_option maxRecDepth 20000 in
theorem ggL_law_X10_error : GoodIn wsL_law wsX10_error := goodIn_r _ [402, 163, 403, 121, 122, 123, 124, 301, 305, 306, 5, 307, 302, 303, 304, 736, 737, 738, 739, 740, 741, 742, 743, 744, 745, 746, 747, 748, 749, 750, 751, 752, 753, 754, 755, 756, 757, 758, 759, 760, 761, 762, 763, 764, 765, 766, 767, 768, 769, 770, 771, 772, 773, 774, 775, 776, 777, 778, 779, 780, 781, 782, 783, 784, 785] (by decide +kernel) (by decide +kernel)
set_option maxRecDepth 20000 in
theorem gL_law_X10_error : GoodIn wsL_law (wsV RL 61 RX10 yX10_error wsX10_error) := goodIn_app (goodIn_of _ (by decide +kernel)) ggL_law_X10_error
set_option maxRecDepth 20000 in
theorem ggL_law_X9_log : GoodIn wsL_law wsX9_log := goodIn_r _ [407, 46, 31, 30, 408, 409, 47, 410, 411, 2, 412, 176, 177, 178, 396, 397, 398, 413, 414, 415, 416, 11, 12, 417, 418, 419, 420, 421, 422, 423, 424, 425, 722, 723, 724, 725, 726, 727, 728, 729, 730, 731, 732, 733, 734, 735, 821, 822, 823, 824, 825, 826, 827, 828, 829] (by decide +kernel) (by decide +kernel)
set_option maxRecDepth 20000 in
theorem gL_law_X9_log : GoodIn wsL_law (wsV RL 62 RX9 yX9_log wsX9_log) := goodIn_app (goodIn_of _ (by decide +kernel)) ggL_law_X9_log
set_option maxRecDepth 20000 in
theorem ggL_law_X10_log : GoodIn wsL_law wsX10_log := goodIn_r _ [429, 163, 430, 125, 126, 127, 128, 129, 301, 305, 306, 5, 307, 736, 737, 738, 739, 740, 741, 742, 743, 744, 745, 746, 747, 748, 749, 750, 751, 752, 753, 754, 755, 756, 757, 758, 759, 760, 761, 762, 763, 764, 765, 766, 767, 768, 769, 770, 771, 772, 773, 774, 775, 776, 777, 778, 779, 780, 781, 782, 783, 784, 785] (by decide +kernel) (by decide +kernel)
set_option maxRecDepth 20000 in
theorem gL_law_X10_log : GoodIn wsL_law (wsV RL 66 RX10 yX10_log wsX10_log) := goodIn_app (goodIn_of _ (by decide +kernel)) ggL_law_X10_log
set_option maxRecDepth 20000 in
theorem ggL_law_X9_defects : GoodIn wsL_law wsX9_defects := goodIn_r _ [434, 31, 435, 436, 437, 2, 438, 46, 176, 177, 178, 722, 723, 724, 725, 726, 727, 728, 729, 730, 731, 732, 733, 734, 735, 821, 822, 823, 824, 825, 826, 827, 828, 829] (by decide +kernel) (by decide +kernel)
set_option maxRecDepth 20000 in
theorem gL_law_X9_defects : GoodIn wsL_law (wsV RL 67 RX9 yX9_defects wsX9_defects) := goodIn_app (goodIn_of _ (by decide +kernel)) ggL_law_X9_defects
set_option maxRecDepth 20000 in
theorem ggL_law_X10_defects : GoodIn wsL_law wsX10_defects := goodIn_r _ [442, 163, 130, 131, 443, 444, 445, 5, 446, 430, 305, 306, 307, 736, 737, 738, 739, 740, 741, 742, 743, 744, 745, 746, 747, 748, 749, 750, 751, 752, 753, 754, 755, 756, 757, 758, 759, 760, 761, 762, 763, 764, 765, 766, 767, 768, 769, 770, 771, 772, 773, 774, 775, 776, 777, 778, 779, 780, 781, 782, 783, 784, 785] (by decide +kernel) (by decide +kernel)
set_option maxRecDepth 20000 in
theorem gL_law_X10_defects : GoodIn wsL_law (wsV RL 70 RX10 yX10_defects wsX10_defects) := goodIn_app (goodIn_of _ (by decide +kernel)) ggL_law_X10_defects
set_option maxRecDepth 20000 in
theorem ggL_law_X9_scale : GoodIn wsL_law wsX9_scale := goodIn_r _ [450, 31, 435, 436, 437, 2, 438, 46, 176, 177, 178, 364, 365, 366, 367, 47, 451, 452, 453, 454, 24, 20, 26, 455, 456, 229, 230, 231, 457, 233, 234, 368, 369, 370, 23, 371, 65, 66, 68, 67, 458, 459, 460, 461, 27, 29, 462, 463, 464, 322, 323, 324, 19, 325, 60, 56, 58, 59, 326, 327, 328, 329, 330, 331, 332, 333, 57, 334, 335, 336, 337, 338, 339, 340, 341, 342, 343, 251, 252, 253, 344, 345, 346, 347, 722, 723, 724, 725, 726, 727, 728, 729, 730, 731, 732, 733, 734, 735, 821, 822, 823, 824, 825, 826, 827, 828, 829, 820, 793, 794, 795, 796, 788, 789, 790, 791, 792] (by decide +kernel) (by decide +kernel)
set_option maxRecDepth 20000 in
theorem gL_law_X9_scale : GoodIn wsL_law (wsV RL 71 RX9 yX9_scale wsX9_scale) := goodIn_app (goodIn_of _ (by decide +kernel)) ggL_law_X9_scale
set_option maxRecDepth 20000 in
theorem ggL_law_X10_scale : GoodIn wsL_law wsX10_scale := goodIn_r _ [468, 163, 443, 444, 445, 5, 446, 430, 376, 377, 378, 379, 301, 305, 306, 307, 469, 470, 471, 472, 129, 127, 126, 130, 473, 463, 230, 464, 474, 128, 228, 229, 231, 232, 233, 234, 131, 475, 380, 381, 382, 383, 300, 120, 119, 476, 477, 478, 479, 403, 121, 124, 123, 122, 352, 353, 354, 355, 117, 118, 202, 203, 204, 205, 138, 206, 207, 208, 209, 201, 210, 211, 212, 213, 214, 215, 216, 217, 218, 219, 220, 221, 222, 223, 224, 225, 226, 227, 235, 236, 237, 238, 239, 240, 241, 242, 243, 244, 245, 246, 247, 248, 249, 250, 251, 252, 253, 736, 737, 738, 739, 740, 741, 742, 743, 744, 745, 746, 747, 748, 749, 750, 751, 752, 753, 754, 755, 756, 757, 758, 759, 760, 761, 762, 763, 764, 765, 766, 767, 768, 769, 770, 771, 772, 773, 774, 775, 776, 777, 778, 779, 780, 781, 782, 783, 784, 785] (by decide +kernel) (by decide +kernel)
set_option maxRecDepth 20000 in
theorem gL_law_X10_scale : GoodIn wsL_law (wsV RL 74 RX10 yX10_scale wsX10_scale) := goodIn_app (goodIn_of _ (by decide +kernel)) ggL_law_X10_scale
set_option maxRecDepth 20000 in
theorem ggL_law_X9_sum : GoodIn wsL_law wsX9_sum := goodIn_r _ [483, 46, 31, 410, 411, 2, 412, 176, 177, 178, 364, 365, 366, 367, 47, 484, 485, 486, 487, 451, 452, 453, 454, 24, 20, 26, 455, 456, 229, 230, 231, 457, 233, 234, 368, 369, 370, 23, 371, 65, 66, 68, 67, 458, 459, 460, 461, 27, 29, 462, 463, 464, 322, 323, 324, 19, 325, 60, 56, 58, 59, 326, 327, 328, 329, 330, 331, 332, 333, 57, 334, 335, 336, 337, 338, 339, 340, 341, 342, 343, 251, 252, 253, 344, 345, 346, 347, 722, 723, 724, 725, 726, 727, 728, 729, 730, 731, 732, 733, 734, 735, 821, 822, 823, 824, 825, 826, 827, 828, 829, 820, 793, 794, 795, 796, 788, 789, 790, 791, 792] (by decide +kernel) (by decide +kernel)
set_option maxRecDepth 20000 in
theorem gL_law_X9_sum : GoodIn wsL_law (wsV RL 75 RX9 yX9_sum wsX9_sum) := goodIn_app (goodIn_of _ (by decide +kernel)) ggL_law_X9_sum
set_option maxRecDepth 20000 in
theorem ggL_law_X10_sum : GoodIn wsL_law wsX10_sum := goodIn_r _ [491, 163, 430, 125, 473, 463, 230, 464, 305, 306, 5, 307, 376, 377, 378, 379, 301, 469, 470, 471, 472, 129, 127, 126, 130, 474, 128, 228, 229, 231, 232, 233, 234, 131, 475, 380, 381, 382, 383, 300, 120, 119, 476, 477, 478, 479, 403, 121, 124, 123, 122, 352, 353, 354, 355, 117, 118, 202, 203, 204, 205, 138, 206, 207, 208, 209, 201, 210, 211, 212, 213, 214, 215, 216, 217, 218, 219, 220, 221, 222, 223, 224, 225, 226, 227, 235, 236, 237, 238, 239, 240, 241, 242, 243, 244, 245, 246, 247, 248, 249, 250, 251, 252, 253, 736, 737, 738, 739, 740, 741, 742, 743, 744, 745, 746, 747, 748, 749, 750, 751, 752, 753, 754, 755, 756, 757, 758, 759, 760, 761, 762, 763, 764, 765, 766, 767, 768, 769, 770, 771, 772, 773, 774, 775, 776, 777, 778, 779, 780, 781, 782, 783, 784, 785] (by decide +kernel) (by decide +kernel)
set_option maxRecDepth 20000 in
theorem gL_law_X10_sum : GoodIn wsL_law (wsV RL 78 RX10 yX10_sum wsX10_sum) := goodIn_app (goodIn_of _ (by decide +kernel)) ggL_law_X10_sum
set_option maxRecDepth 20000 in
theorem ggL_law_X9_price : GoodIn wsL_law wsX9_price := goodIn_r _ [495, 32, 410, 411, 2, 412, 176, 177, 178, 722, 723, 724, 725, 726, 727, 728, 729, 730, 731, 732, 733, 734, 735] (by decide +kernel) (by decide +kernel)
set_option maxRecDepth 20000 in
theorem gL_law_X9_price : GoodIn wsL_law (wsV RL 79 RX9 yX9_price wsX9_price) := goodIn_app (goodIn_of _ (by decide +kernel)) ggL_law_X9_price
set_option maxRecDepth 20000 in
theorem ggL_law_X10_price : GoodIn wsL_law wsX10_price := goodIn_r _ [499, 163, 134, 305, 306, 5, 307, 736, 737, 738, 739, 740, 741, 742, 743, 744, 745, 746, 747, 748, 749, 750, 751, 752, 753, 754, 755, 756, 757, 758, 759, 760, 761, 762, 763, 764, 765, 766, 767, 768, 769, 770, 771, 772, 773, 774, 775, 776, 777, 778, 779, 780, 781, 782, 783, 784, 785] (by decide +kernel) (by decide +kernel)
set_option maxRecDepth 20000 in
theorem gL_law_X10_price : GoodIn wsL_law (wsV RL 83 RX10 yX10_price wsX10_price) := goodIn_app (goodIn_of _ (by decide +kernel)) ggL_law_X10_price
set_option maxRecDepth 20000 in
theorem ggL_law_X9_day : GoodIn wsL_law wsX9_day := goodIn_r _ [503, 47, 37, 504, 505, 506, 2, 507, 46, 33, 31, 32, 484, 485, 486, 487, 451, 452, 453, 454, 24, 20, 26, 455, 456, 229, 230, 231, 457, 233, 234, 368, 369, 370, 23, 371, 65, 66, 68, 67, 458, 459, 460, 461, 27, 29, 462, 463, 464, 322, 323, 324, 19, 325, 60, 56, 58, 59, 326, 327, 328, 329, 330, 331, 332, 333, 57, 334, 335, 336, 337, 338, 339, 340, 341, 342, 343, 251, 252, 253, 344, 345, 346, 347, 508, 509, 510, 511, 512, 513, 514, 36, 515, 75, 72, 73, 74, 76, 516, 517, 518, 519, 520, 285, 286, 521, 276, 109, 277, 278, 279, 280, 281, 282, 283, 28, 284, 287, 288, 289, 290, 722, 723, 724, 725, 726, 727, 728, 729, 730, 731, 732, 733, 734, 735, 797, 798, 799, 800, 801, 821, 822, 823, 824, 825, 826, 827, 828, 829, 820, 793, 794, 795, 796, 788, 789, 790, 791, 792] (by decide +kernel) (by decide +kernel)
set_option maxRecDepth 20000 in
theorem gL_law_X9_day : GoodIn wsL_law (wsV RL 84 RX9 yX9_day wsX9_day) := goodIn_app (goodIn_of _ (by decide +kernel)) ggL_law_X9_day
set_option maxRecDepth 20000 in
theorem ggL_law_X10_day : GoodIn wsL_law wsX10_day := goodIn_r _ [525, 163, 430, 132, 301, 526, 135, 136, 137, 527, 528, 529, 530, 5, 531, 473, 463, 230, 464, 134, 125, 469, 470, 471, 472, 129, 127, 126, 130, 474, 128, 228, 229, 231, 232, 233, 234, 131, 475, 380, 381, 382, 383, 300, 120, 119, 476, 477, 478, 479, 403, 121, 124, 123, 122, 352, 353, 354, 355, 117, 118, 202, 203, 204, 205, 138, 206, 207, 208, 209, 201, 210, 211, 212, 213, 214, 215, 216, 217, 218, 219, 220, 221, 222, 223, 224, 225, 226, 227, 235, 236, 237, 238, 239, 240, 241, 242, 243, 244, 245, 246, 247, 248, 249, 250, 251, 252, 253, 736, 737, 738, 739, 740, 741, 742, 743, 744, 745, 746, 747, 748, 749, 750, 751, 752, 753, 754, 755, 756, 757, 758, 759, 760, 761, 762, 763, 764, 765, 766, 767, 768, 769, 770, 771, 772, 773, 774, 775, 776, 777, 778, 779, 780, 781, 782, 783, 784, 785] (by decide +kernel) (by decide +kernel)
set_option maxRecDepth 20000 in
theorem gL_law_X10_day : GoodIn wsL_law (wsV RL 87 RX10 yX10_day wsX10_day) := goodIn_app (goodIn_of _ (by decide +kernel)) ggL_law_X10_day
set_option maxRecDepth 20000 in
theorem ggL_law_X9_line : GoodIn wsL_law wsX9_line := goodIn_r _ [535, 37, 536, 176, 177, 2, 178, 722, 723, 724, 725, 726, 727, 728, 729, 730, 731, 732, 733, 734, 735, 797, 798, 799, 800, 801] (by decide +kernel) (by decide +kernel)
set_option maxRecDepth 20000 in
theorem gL_law_X9_line : GoodIn wsL_law (wsV RL 88 RX9 yX9_line wsX9_line) := goodIn_app (goodIn_of _ (by decide +kernel)) ggL_law_X9_line
set_option maxRecDepth 20000 in
theorem ggL_law_X10_line : GoodIn wsL_law wsX10_line := goodIn_r _ [540, 163, 526, 541, 135, 136, 137, 305, 306, 5, 307, 736, 737, 738, 739, 740, 741, 742, 743, 744, 745, 746, 747, 748, 749, 750, 751, 752, 753, 754, 755, 756, 757, 758, 759, 760, 761, 762, 763, 764, 765, 766, 767, 768, 769, 770, 771, 772, 773, 774, 775, 776, 777, 778, 779, 780, 781, 782, 783, 784, 785] (by decide +kernel) (by decide +kernel)
set_option maxRecDepth 20000 in
theorem gL_law_X10_line : GoodIn wsL_law (wsV RL 91 RX10 yX10_line wsX10_line) := goodIn_app (goodIn_of _ (by decide +kernel)) ggL_law_X10_line
set_option maxRecDepth 20000 in
theorem ggL_law_X9_check : GoodIn wsL_law wsX9_check := goodIn_r _ [545, 31, 435, 436, 437, 2, 438, 46, 176, 177, 178, 722, 723, 724, 725, 726, 727, 728, 729, 730, 731, 732, 733, 734, 735, 821, 822, 823, 824, 825, 826, 827, 828, 829] (by decide +kernel) (by decide +kernel)
set_option maxRecDepth 20000 in
theorem gL_law_X9_check : GoodIn wsL_law (wsV RL 92 RX9 yX9_check wsX9_check) := goodIn_app (goodIn_of _ (by decide +kernel)) ggL_law_X9_check
set_option maxRecDepth 20000 in
theorem ggL_law_X10_check : GoodIn wsL_law wsX10_check := goodIn_r _ [549, 163, 133, 443, 444, 445, 5, 446, 430, 305, 306, 307, 736, 737, 738, 739, 740, 741, 742, 743, 744, 745, 746, 747, 748, 749, 750, 751, 752, 753, 754, 755, 756, 757, 758, 759, 760, 761, 762, 763, 764, 765, 766, 767, 768, 769, 770, 771, 772, 773, 774, 775, 776, 777, 778, 779, 780, 781, 782, 783, 784, 785] (by decide +kernel) (by decide +kernel)
set_option maxRecDepth 20000 in
theorem gL_law_X10_check : GoodIn wsL_law (wsV RL 95 RX10 yX10_check wsX10_check) := goodIn_app (goodIn_of _ (by decide +kernel)) ggL_law_X10_check
set_option maxRecDepth 20000 in
theorem ggL_law_X9_habit : GoodIn wsL_law wsX9_habit := goodIn_r _ [553, 554, 46, 31, 396, 397, 2, 398, 176, 177, 178, 555, 556, 557, 722, 723, 724, 725, 726, 727, 728, 729, 730, 731, 732, 733, 734, 735, 821, 822, 823, 824, 825, 826, 827, 828, 829] (by decide +kernel) (by decide +kernel)
set_option maxRecDepth 20000 in
theorem gL_law_X9_habit : GoodIn wsL_law (wsV RL 96 RX9 yX9_habit wsX9_habit) := goodIn_app (goodIn_of _ (by decide +kernel)) ggL_law_X9_habit
