set_option maxRecDepth 20000 in
theorem ggL_law_X7_init : GoodIn wsL_law wsX7_init := goodIn_r _ [8, 9, 10, 11, 12, 13, 14, 15, 16, 17, 18, 19, 20, 21, 22, 23, 24, 25, 26, 27, 28, 29, 30, 31, 32, 33, 34, 35, 36, 37, 38, 39, 40, 41, 42, 43, 44, 45, 46, 47, 48, 49, 50, 51, 52, 53, 54, 55, 56, 57, 58, 59, 60, 61, 62, 63, 64, 65, 66, 67, 68, 69, 70, 71, 72, 73, 74, 75, 76, 77, 78, 79, 80, 81, 82, 83, 84, 85, 86, 87, 88, 89, 90, 91, 92, 93, 94, 95, 96, 97, 98, 99, 100, 753, 754, 755, 756, 757, 758, 759, 760, 761, 762, 763, 764, 765, 766, 723, 724, 725, 726, 727, 728, 729, 767, 768, 769, 770, 771, 772, 773, 774, 775, 776, 777, 778, 779, 780, 781, 782, 783, 784, 785, 786, 787, 788] (by decide +kernel) (by decide +kernel)
set_option maxRecDepth 20000 in
theorem gL_law_X7_init : GoodIn wsL_law (wsX7_init) := ggL_law_X7_init
set_option maxRecDepth 20000 in
theorem ggL_law_X8_init : GoodIn wsL_law wsX8_init := goodIn_r _ [103, 104, 10, 11, 105, 41, 106, 107, 108, 109, 110, 111, 112, 113, 114, 115, 116, 117, 118, 119, 120, 121, 122, 123, 124, 125, 5, 126, 127, 730, 731, 732, 733, 734, 735, 736, 737, 738, 739, 740, 741, 742, 743, 744, 745, 746, 747, 748, 749, 750, 751, 752] (by decide +kernel) (by decide +kernel)
set_option maxRecDepth 20000 in
theorem gL_law_X8_init : GoodIn wsL_law (wsX8_init) := ggL_law_X8_init
set_option maxRecDepth 20000 in
theorem ggL_law_X7_members : GoodIn wsL_law wsX7_members := goodIn_r _ [131, 18, 132, 133, 134, 2, 135, 136, 137, 138, 14, 139, 52, 140, 42, 43, 44, 59, 60, 61, 62, 723, 724, 725, 726, 727, 728, 729, 753, 754, 755, 756, 757, 758, 759, 760, 761] (by decide +kernel) (by decide +kernel)
set_option maxRecDepth 20000 in
theorem gL_law_X7_members : GoodIn wsL_law (wsV RL 13 RX7 yX7_members wsX7_members) := goodIn_app (goodIn_of _ (by decide +kernel)) ggL_law_X7_members
set_option maxRecDepth 20000 in
theorem ggL_law_X8_members : GoodIn wsL_law wsX8_members := goodIn_r _ [144, 105, 145, 146, 5, 147, 123, 124, 125, 126, 106, 107, 108, 127, 730, 731, 732, 733, 734, 735, 736, 737, 738, 739, 740, 741, 742, 743, 744, 745, 746, 747, 748, 749, 750, 751, 752] (by decide +kernel) (by decide +kernel)
set_option maxRecDepth 20000 in
theorem gL_law_X8_members : GoodIn wsL_law (wsV RL 17 RX8 yX8_members wsX8_members) := goodIn_app (goodIn_of _ (by decide +kernel)) ggL_law_X8_members
set_option maxRecDepth 20000 in
theorem ggL_law_X7_member : GoodIn wsL_law wsX7_member := goodIn_r _ [151, 18, 152, 153, 154, 14, 155, 52, 133, 134, 2, 135, 156, 157, 158, 159, 42, 43, 44, 723, 724, 725, 726, 727, 728, 729, 753, 754, 755, 756, 757, 758, 759, 760, 761] (by decide +kernel) (by decide +kernel)
set_option maxRecDepth 20000 in
theorem gL_law_X7_member : GoodIn wsL_law (wsV RL 18 RX7 yX7_member wsX7_member) := goodIn_app (goodIn_of _ (by decide +kernel)) ggL_law_X7_member
set_option maxRecDepth 20000 in
theorem ggL_law_X8_member : GoodIn wsL_law wsX8_member := goodIn_r _ [163, 106, 107, 108, 164, 165, 166, 5, 167, 105, 145, 146, 147, 730, 731, 732, 733, 734, 735, 736, 737, 738, 739, 740, 741, 742, 743, 744, 745, 746, 747, 748, 749, 750, 751, 752] (by decide +kernel) (by decide +kernel)
set_option maxRecDepth 20000 in
theorem gL_law_X8_member : GoodIn wsL_law (wsV RL 22 RX8 yX8_member wsX8_member) := goodIn_app (goodIn_of _ (by decide +kernel)) ggL_law_X8_member
set_option maxRecDepth 20000 in
theorem ggL_law_X7_fine : GoodIn wsL_law wsX7_fine := goodIn_r _ [171, 18, 172, 133, 134, 2, 135, 723, 724, 725, 726, 727, 728, 729, 753, 754, 755, 756, 757, 758, 759, 760, 761] (by decide +kernel) (by decide +kernel)
set_option maxRecDepth 20000 in
theorem gL_law_X7_fine : GoodIn wsL_law (wsV RL 23 RX7 yX7_fine wsX7_fine) := goodIn_app (goodIn_of _ (by decide +kernel)) ggL_law_X7_fine
set_option maxRecDepth 20000 in
theorem ggL_law_X8_fine : GoodIn wsL_law wsX8_fine := goodIn_r _ [176, 109, 145, 146, 5, 147, 730, 731, 732, 733, 734, 735, 736, 737, 738, 739, 740, 741, 742, 743, 744, 745, 746, 747, 748, 749, 750, 751, 752] (by decide +kernel) (by decide +kernel)
set_option maxRecDepth 20000 in
theorem gL_law_X8_fine : GoodIn wsL_law (wsV RL 26 RX8 yX8_fine wsX8_fine) := goodIn_app (goodIn_of _ (by decide +kernel)) ggL_law_X8_fine
set_option maxRecDepth 20000 in
theorem ggL_law_X7_say : GoodIn wsL_law wsX7_say := goodIn_r _ [180, 23, 181, 133, 134, 2, 135, 182, 183, 184, 22, 185, 186, 74, 723, 724, 725, 726, 727, 728, 729, 767, 768] (by decide +kernel) (by decide +kernel)
set_option maxRecDepth 20000 in
theorem gL_law_X7_say : GoodIn wsL_law (wsV RL 27 RX7 yX7_say wsX7_say) := goodIn_app (goodIn_of _ (by decide +kernel)) ggL_law_X7_say
set_option maxRecDepth 20000 in
theorem ggL_law_X8_say : GoodIn wsL_law wsX8_say := goodIn_r _ [190, 191, 113, 145, 146, 5, 147, 730, 731, 732, 733, 734, 735, 736, 737, 738, 739, 740, 741, 742, 743, 744, 745, 746, 747, 748, 749, 750, 751, 752] (by decide +kernel) (by decide +kernel)
set_option maxRecDepth 20000 in
theorem gL_law_X8_say : GoodIn wsL_law (wsV RL 30 RX8 yX8_say wsX8_say) := goodIn_app (goodIn_of _ (by decide +kernel)) ggL_law_X8_say
set_option maxRecDepth 20000 in
theorem ggL_law_X7_wipe : GoodIn wsL_law wsX7_wipe := goodIn_r _ [195, 23, 181, 723, 724, 725, 726, 727, 728, 729, 767, 768] (by decide +kernel) (by decide +kernel)
set_option maxRecDepth 20000 in
theorem gL_law_X7_wipe : GoodIn wsL_law (wsV RL 31 RX7 yX7_wipe wsX7_wipe) := goodIn_app (goodIn_of _ (by decide +kernel)) ggL_law_X7_wipe
set_option maxRecDepth 20000 in
theorem ggL_law_X8_wipe : GoodIn wsL_law wsX8_wipe := goodIn_r _ [199, 191, 730, 731, 732, 733, 734, 735, 736, 737, 738, 739, 740, 741, 742, 743, 744, 745, 746, 747, 748, 749, 750, 751, 752] (by decide +kernel) (by decide +kernel)
set_option maxRecDepth 20000 in
theorem gL_law_X8_wipe : GoodIn wsL_law (wsV RL 35 RX8 yX8_wipe wsX8_wipe) := goodIn_app (goodIn_of _ (by decide +kernel)) ggL_law_X8_wipe
set_option maxRecDepth 20000 in
theorem ggL_law_X7_fault : GoodIn wsL_law wsX7_fault := goodIn_r _ [203, 23, 204, 205, 206, 22, 207, 186, 74, 208, 209, 210, 723, 724, 725, 726, 727, 728, 729, 767, 768] (by decide +kernel) (by decide +kernel)
set_option maxRecDepth 20000 in
theorem gL_law_X7_fault : GoodIn wsL_law (wsV RL 36 RX7 yX7_fault wsX7_fault) := goodIn_app (goodIn_of _ (by decide +kernel)) ggL_law_X7_fault
set_option maxRecDepth 20000 in
theorem ggL_law_X8_fault : GoodIn wsL_law wsX8_fault := goodIn_r _ [214, 215, 216, 217, 5, 218, 191, 113, 145, 146, 147, 219, 220, 221, 222, 223, 224, 225, 226, 227, 730, 731, 732, 733, 734, 735, 736, 737, 738, 739, 740, 741, 742, 743, 744, 745, 746, 747, 748, 749, 750, 751, 752] (by decide +kernel) (by decide +kernel)
set_option maxRecDepth 20000 in
theorem gL_law_X8_fault : GoodIn wsL_law (wsV RL 39 RX8 yX8_fault wsX8_fault) := goodIn_app (goodIn_of _ (by decide +kernel)) ggL_law_X8_fault
set_option maxRecDepth 20000 in
theorem ggL_law_X7_enact : GoodIn wsL_law wsX7_enact := goodIn_r _ [231, 23, 18, 232, 233, 181, 234, 204, 205, 206, 22, 207, 186, 74, 208, 209, 210, 235, 236, 237, 47, 238, 239, 240, 241, 242, 58, 57, 243, 244, 245, 246, 723, 724, 725, 726, 727, 728, 729, 753, 754, 755, 756, 757, 758, 759, 760, 761, 767, 768, 787, 788] (by decide +kernel) (by decide +kernel)
set_option maxRecDepth 20000 in
theorem gL_law_X7_enact : GoodIn wsL_law (wsV RL 40 RX7 yX7_enact wsX7_enact) := goodIn_app (goodIn_of _ (by decide +kernel)) ggL_law_X7_enact
set_option maxRecDepth 20000 in
theorem ggL_law_X8_enact : GoodIn wsL_law wsX8_enact := goodIn_r _ [250, 191, 110, 111, 113, 215, 216, 217, 5, 218, 145, 146, 147, 219, 220, 221, 222, 223, 224, 225, 226, 227, 730, 731, 732, 733, 734, 735, 736, 737, 738, 739, 740, 741, 742, 743, 744, 745, 746, 747, 748, 749, 750, 751, 752] (by decide +kernel) (by decide +kernel)
set_option maxRecDepth 20000 in
theorem gL_law_X8_enact : GoodIn wsL_law (wsV RL 43 RX8 yX8_enact wsX8_enact) := goodIn_app (goodIn_of _ (by decide +kernel)) ggL_law_X8_enact
set_option maxRecDepth 20000 in
theorem ggL_law_X7_hour : GoodIn wsL_law wsX7_hour := goodIn_r _ [254, 19, 18, 255, 256, 257, 2, 258, 133, 134, 135, 259, 260, 261, 17, 262, 70, 263, 264, 265, 266, 267, 268, 269, 270, 240, 241, 242, 271, 272, 273, 274, 275, 276, 277, 278, 279, 280, 281, 68, 282, 283, 284, 285, 286, 287, 288, 289, 290, 291, 292, 69, 293, 294, 295, 296, 297, 298, 299, 300, 723, 724, 725, 726, 727, 728, 729, 753, 754, 755, 756, 757, 758, 759, 760, 761, 762, 763, 764, 765, 766, 787, 788] (by decide +kernel) (by decide +kernel)
set_option maxRecDepth 20000 in
theorem gL_law_X7_hour : GoodIn wsL_law (wsV RL 44 RX7 yX7_hour wsX7_hour) := goodIn_app (goodIn_of _ (by decide +kernel)) ggL_law_X7_hour
set_option maxRecDepth 20000 in
theorem ggL_law_X8_hour : GoodIn wsL_law wsX8_hour := goodIn_r _ [304, 305, 306, 5, 307, 145, 146, 147, 308, 309, 310, 311, 312, 114, 107, 313, 314, 315, 316, 317, 318, 319, 320, 110, 111, 116, 321, 322, 323, 324, 105, 115, 325, 326, 327, 328, 106, 225, 226, 227, 219, 220, 221, 329, 330, 331, 332, 333, 334, 335, 730, 731, 732, 733, 734, 735, 736, 737, 738, 739, 740, 741, 742, 743, 744, 745, 746, 747, 748, 749, 750, 751, 752] (by decide +kernel) (by decide +kernel)
set_option maxRecDepth 20000 in
theorem gL_law_X8_hour : GoodIn wsL_law (wsV RL 48 RX8 yX8_hour wsX8_hour) := goodIn_app (goodIn_of _ (by decide +kernel)) ggL_law_X8_hour
set_option maxRecDepth 20000 in
theorem ggL_law_X7_comes : GoodIn wsL_law wsX7_comes := goodIn_r _ [339, 18, 19, 255, 340, 152, 153, 154, 14, 155, 52, 256, 257, 2, 258, 133, 134, 135, 259, 260, 261, 17, 262, 70, 263, 264, 265, 266, 267, 268, 269, 270, 240, 241, 242, 271, 272, 273, 274, 275, 276, 277, 278, 279, 280, 281, 68, 282, 283, 284, 285, 286, 287, 288, 289, 290, 291, 292, 69, 293, 294, 295, 296, 297, 298, 299, 300, 341, 723, 724, 725, 726, 727, 728, 729, 753, 754, 755, 756, 757, 758, 759, 760, 761, 762, 763, 764, 765, 766, 787, 788] (by decide +kernel) (by decide +kernel)
set_option maxRecDepth 20000 in
theorem gL_law_X7_comes : GoodIn wsL_law (wsV RL 49 RX7 yX7_comes wsX7_comes) := goodIn_app (goodIn_of _ (by decide +kernel)) ggL_law_X7_comes
set_option maxRecDepth 20000 in
theorem ggL_law_X8_comes : GoodIn wsL_law wsX8_comes := goodIn_r _ [345, 164, 165, 166, 5, 167, 105, 145, 146, 147, 305, 306, 307, 308, 309, 310, 311, 312, 114, 107, 313, 314, 315, 316, 317, 318, 319, 320, 110, 111, 116, 321, 322, 323, 324, 115, 325, 326, 327, 328, 106, 225, 226, 227, 219, 220, 221, 329, 330, 331, 332, 333, 334, 335, 730, 731, 732, 733, 734, 735, 736, 737, 738, 739, 740, 741, 742, 743, 744, 745, 746, 747, 748, 749, 750, 751, 752] (by decide +kernel) (by decide +kernel)
set_option maxRecDepth 20000 in
theorem gL_law_X8_comes : GoodIn wsL_law (wsV RL 52 RX8 yX8_comes wsX8_comes) := goodIn_app (goodIn_of _ (by decide +kernel)) ggL_law_X8_comes
set_option maxRecDepth 20000 in
theorem ggL_law_X7_tends : GoodIn wsL_law wsX7_tends := goodIn_r _ [349, 27, 18, 232, 350, 351, 352, 256, 257, 2, 258, 133, 134, 135, 353, 354, 355, 26, 356, 81, 82, 357, 358, 359, 360, 361, 362, 60, 61, 62, 363, 265, 266, 17, 267, 70, 268, 269, 270, 240, 241, 242, 271, 272, 273, 274, 275, 276, 277, 278, 279, 280, 281, 68, 282, 283, 284, 285, 286, 287, 288, 289, 290, 291, 292, 69, 293, 294, 295, 296, 297, 298, 299, 300, 723, 724, 725, 726, 727, 728, 729, 753, 754, 755, 756, 757, 758, 759, 760, 761, 769, 770, 771, 772, 773, 774, 762, 763, 764, 765, 766, 787, 788] (by decide +kernel) (by decide +kernel)
set_option maxRecDepth 20000 in
theorem gL_law_X7_tends : GoodIn wsL_law (wsV RL 53 RX7 yX7_tends wsX7_tends) := goodIn_app (goodIn_of _ (by decide +kernel)) ggL_law_X7_tends
set_option maxRecDepth 20000 in
theorem ggL_law_X8_tends : GoodIn wsL_law wsX8_tends := goodIn_r _ [367, 368, 369, 370, 305, 306, 5, 307, 145, 146, 147, 308, 309, 310, 311, 312, 114, 107, 371, 372, 373, 374, 117, 317, 318, 319, 320, 110, 111, 116, 321, 322, 323, 324, 105, 115, 325, 326, 327, 328, 106, 225, 226, 227, 219, 220, 221, 329, 330, 331, 332, 333, 334, 335, 730, 731, 732, 733, 734, 735, 736, 737, 738, 739, 740, 741, 742, 743, 744, 745, 746, 747, 748, 749, 750, 751, 752] (by decide +kernel) (by decide +kernel)
set_option maxRecDepth 20000 in
theorem gL_law_X8_tends : GoodIn wsL_law (wsV RL 56 RX8 yX8_tends wsX8_tends) := goodIn_app (goodIn_of _ (by decide +kernel)) ggL_law_X8_tends
set_option maxRecDepth 20000 in
theorem ggL_law_X7_paid : GoodIn wsL_law wsX7_paid := goodIn_r _ [378, 18, 172, 255, 152, 153, 154, 14, 155, 52, 133, 134, 2, 135, 723, 724, 725, 726, 727, 728, 729, 753, 754, 755, 756, 757, 758, 759, 760, 761] (by decide +kernel) (by decide +kernel)
set_option maxRecDepth 20000 in
theorem gL_law_X7_paid : GoodIn wsL_law (wsV RL 57 RX7 yX7_paid wsX7_paid) := goodIn_app (goodIn_of _ (by decide +kernel)) ggL_law_X7_paid
set_option maxRecDepth 20000 in
theorem ggL_law_X8_paid : GoodIn wsL_law wsX8_paid := goodIn_r _ [382, 109, 107, 164, 165, 166, 5, 167, 105, 145, 146, 147, 730, 731, 732, 733, 734, 735, 736, 737, 738, 739, 740, 741, 742, 743, 744, 745, 746, 747, 748, 749, 750, 751, 752] (by decide +kernel) (by decide +kernel)
set_option maxRecDepth 20000 in
theorem gL_law_X8_paid : GoodIn wsL_law (wsV RL 60 RX8 yX8_paid wsX8_paid) := goodIn_app (goodIn_of _ (by decide +kernel)) ggL_law_X8_paid
set_option maxRecDepth 20000 in
theorem ggL_law_X7_content : GoodIn wsL_law wsX7_content := goodIn_r _ [386, 18, 256, 257, 2, 258, 387, 388, 389, 14, 390, 52, 44, 391, 392, 241, 393, 723, 724, 725, 726, 727, 728, 729, 753, 754, 755, 756, 757, 758, 759, 760, 761] (by decide +kernel) (by decide +kernel)
set_option maxRecDepth 20000 in
theorem gL_law_X7_content : GoodIn wsL_law (wsV RL 61 RX7 yX7_content wsX7_content) := goodIn_app (goodIn_of _ (by decide +kernel)) ggL_law_X7_content
set_option maxRecDepth 20000 in
theorem ggL_law_X8_content : GoodIn wsL_law wsX8_content := goodIn_r _ [397, 305, 306, 5, 307, 145, 146, 147, 398, 399, 400, 401, 105, 108, 402, 403, 404, 730, 731, 732, 733, 734, 735, 736, 737, 738, 739, 740, 741, 742, 743, 744, 745, 746, 747, 748, 749, 750, 751, 752] (by decide +kernel) (by decide +kernel)
set_option maxRecDepth 20000 in
theorem gL_law_X8_content : GoodIn wsL_law (wsV RL 64 RX8 yX8_content wsX8_content) := goodIn_app (goodIn_of _ (by decide +kernel)) ggL_law_X8_content
set_option maxRecDepth 20000 in
theorem ggL_law_X7_choice : GoodIn wsL_law wsX7_choice := goodIn_r _ [408, 18, 31, 152, 153, 154, 14, 155, 52, 256, 257, 2, 258, 133, 134, 135, 409, 410, 411, 30, 412, 92, 89, 413, 414, 415, 17, 416, 70, 417, 67, 418, 244, 245, 246, 419, 60, 61, 62, 420, 421, 422, 423, 424, 90, 425, 426, 427, 428, 429, 430, 431, 432, 265, 266, 267, 268, 269, 270, 240, 241, 242, 271, 272, 273, 274, 275, 276, 277, 278, 279, 280, 281, 68, 282, 283, 284, 285, 286, 287, 288, 289, 290, 291, 292, 69, 293, 294, 295, 296, 297, 298, 299, 300, 433, 434, 435, 436, 437, 438, 392, 393, 439, 440, 441, 442, 443, 444, 445, 446, 447, 723, 724, 725, 726, 727, 728, 729, 753, 754, 755, 756, 757, 758, 759, 760, 761, 775, 776, 777, 778, 762, 763, 764, 765, 766, 787, 788] (by decide +kernel) (by decide +kernel)
set_option maxRecDepth 20000 in
theorem gL_law_X7_choice : GoodIn wsL_law (wsV RL 65 RX7 yX7_choice wsX7_choice) := goodIn_app (goodIn_of _ (by decide +kernel)) ggL_law_X7_choice
set_option maxRecDepth 20000 in
theorem ggL_law_X8_choice : GoodIn wsL_law wsX8_choice := goodIn_r _ [451, 452, 114, 108, 109, 164, 165, 166, 5, 167, 105, 145, 146, 147, 305, 306, 307, 308, 309, 310, 311, 312, 107, 317, 318, 319, 320, 110, 111, 116, 321, 322, 323, 324, 115, 325, 326, 327, 328, 106, 225, 226, 227, 219, 220, 221, 329, 330, 331, 332, 333, 334, 335, 402, 403, 404, 730, 731, 732, 733, 734, 735, 736, 737, 738, 739, 740, 741, 742, 743, 744, 745, 746, 747, 748, 749, 750, 751, 752] (by decide +kernel) (by decide +kernel)
set_option maxRecDepth 20000 in
theorem gL_law_X8_choice : GoodIn wsL_law (wsV RL 69 RX8 yX8_choice wsX8_choice) := goodIn_app (goodIn_of _ (by decide +kernel)) ggL_law_X8_choice
set_option maxRecDepth 20000 in
theorem ggL_law_X7_rests : GoodIn wsL_law wsX7_rests := goodIn_r _ [456, 31, 256, 257, 2, 258, 457, 458, 459, 30, 460, 92, 430, 461, 429, 91, 431, 462, 463, 464, 465, 466, 240, 241, 242, 467, 468, 469, 470, 471, 472, 473, 474, 432, 265, 266, 17, 267, 70, 268, 269, 270, 271, 272, 273, 274, 275, 276, 277, 278, 279, 280, 281, 68, 282, 283, 284, 285, 286, 287, 288, 289, 290, 291, 292, 69, 293, 294, 295, 296, 297, 298, 299, 300, 475, 476, 477, 478, 479, 480, 481, 482, 433, 434, 435, 436, 437, 438, 392, 393, 439, 483, 484, 485, 486, 487, 488, 489, 490, 723, 724, 725, 726, 727, 728, 729, 775, 776, 777, 778, 762, 763, 764, 765, 766, 753, 754, 755, 756, 757, 758, 759, 760, 761, 787, 788] (by decide +kernel) (by decide +kernel)
set_option maxRecDepth 20000 in
theorem gL_law_X7_rests : GoodIn wsL_law (wsV RL 70 RX7 yX7_rests wsX7_rests) := goodIn_app (goodIn_of _ (by decide +kernel)) ggL_law_X7_rests
set_option maxRecDepth 20000 in
theorem ggL_law_X8_rests : GoodIn wsL_law wsX8_rests := goodIn_r _ [494, 105, 118, 114, 305, 306, 5, 307, 145, 146, 147, 308, 309, 310, 311, 312, 107, 495, 496, 497, 498, 499, 500, 501, 502, 317, 318, 319, 320, 110, 111, 116, 321, 322, 323, 324, 115, 325, 326, 327, 328, 106, 225, 226, 227, 219, 220, 221, 329, 330, 331, 332, 333, 334, 335, 503, 504, 505, 506, 108, 109, 402, 403, 404, 730, 731, 732, 733, 734, 735, 736, 737, 738, 739, 740, 741, 742, 743, 744, 745, 746, 747, 748, 749, 750, 751, 752] (by decide +kernel) (by decide +kernel)
set_option maxRecDepth 20000 in
theorem gL_law_X8_rests : GoodIn wsL_law (wsV RL 73 RX8 yX8_rests wsX8_rests) := goodIn_app (goodIn_of _ (by decide +kernel)) ggL_law_X8_rests
set_option maxRecDepth 20000 in
theorem ggL_law_X7_laws : GoodIn wsL_law wsX7_laws := goodIn_r _ [510, 27, 256, 257, 2, 258, 133, 134, 135, 511, 512, 513, 26, 514, 515, 82, 357, 516, 517, 518, 519, 80, 360, 361, 520, 521, 522, 47, 523, 57, 58, 524, 525, 526, 527, 354, 355, 356, 81, 358, 359, 362, 60, 61, 62, 363, 265, 266, 17, 267, 70, 268, 269, 270, 240, 241, 242, 271, 272, 273, 274, 275, 276, 277, 278, 279, 280, 281, 68, 282, 283, 284, 285, 286, 287, 288, 289, 290, 291, 292, 69, 293, 294, 295, 296, 297, 298, 299, 300, 528, 388, 389, 14, 390, 52, 44, 391, 392, 393, 529, 723, 724, 725, 726, 727, 728, 729, 769, 770, 771, 772, 773, 774, 762, 763, 764, 765, 766, 787, 788, 753, 754, 755, 756, 757, 758, 759, 760, 761] (by decide +kernel) (by decide +kernel)
set_option maxRecDepth 20000 in
theorem gL_law_X7_laws : GoodIn wsL_law (wsV RL 74 RX7 yX7_laws wsX7_laws) := goodIn_app (goodIn_of _ (by decide +kernel)) ggL_law_X7_laws
set_option maxRecDepth 20000 in
theorem ggL_law_X8_laws : GoodIn wsL_law wsX8_laws := goodIn_r _ [533, 110, 119, 111, 452, 369, 370, 305, 306, 5, 307, 145, 146, 147, 308, 309, 310, 311, 312, 114, 107, 371, 372, 373, 374, 117, 368, 317, 318, 319, 320, 116, 321, 322, 323, 324, 105, 115, 325, 326, 327, 328, 106, 225, 226, 227, 219, 220, 221, 329, 330, 331, 332, 333, 334, 335, 398, 399, 400, 401, 108, 402, 403, 404, 730, 731, 732, 733, 734, 735, 736, 737, 738, 739, 740, 741, 742, 743, 744, 745, 746, 747, 748, 749, 750, 751, 752] (by decide +kernel) (by decide +kernel)
set_option maxRecDepth 20000 in
theorem gL_law_X8_laws : GoodIn wsL_law (wsV RL 77 RX8 yX8_laws wsX8_laws) := goodIn_app (goodIn_of _ (by decide +kernel)) ggL_law_X8_laws
set_option maxRecDepth 20000 in
theorem ggL_law_X7_move : GoodIn wsL_law wsX7_move := goodIn_r _ [537, 31, 256, 257, 2, 258, 133, 134, 135, 538, 539, 540, 30, 541, 92, 430, 461, 542, 543, 544, 545, 546, 547, 548, 549, 550, 551, 552, 429, 413, 414, 415, 17, 416, 70, 417, 67, 418, 244, 245, 246, 553, 554, 555, 556, 557, 558, 260, 261, 262, 263, 264, 265, 266, 267, 268, 269, 270, 240, 241, 242, 271, 272, 273, 274, 275, 276, 277, 278, 279, 280, 281, 68, 282, 283, 284, 285, 286, 287, 288, 289, 290, 291, 292, 69, 293, 294, 295, 296, 297, 298, 299, 300, 723, 724, 725, 726, 727, 728, 729, 775, 776, 777, 778, 762, 763, 764, 765, 766, 753, 754, 755, 756, 757, 758, 759, 760, 761, 787, 788] (by decide +kernel) (by decide +kernel)
set_option maxRecDepth 20000 in
theorem gL_law_X7_move : GoodIn wsL_law (wsV RL 78 RX7 yX7_move wsX7_move) := goodIn_app (goodIn_of _ (by decide +kernel)) ggL_law_X7_move
set_option maxRecDepth 20000 in
theorem ggL_law_X8_move : GoodIn wsL_law wsX8_move := goodIn_r _ [562, 105, 305, 306, 5, 307, 145, 146, 147, 563, 564, 565, 566, 567, 568, 569, 114, 308, 309, 310, 311, 312, 107, 495, 496, 497, 498, 570, 571, 572, 313, 314, 315, 316, 317, 318, 319, 320, 110, 111, 116, 321, 322, 323, 324, 115, 325, 326, 327, 328, 106, 225, 226, 227, 219, 220, 221, 329, 330, 331, 332, 333, 334, 335, 730, 731, 732, 733, 734, 735, 736, 737, 738, 739, 740, 741, 742, 743, 744, 745, 746, 747, 748, 749, 750, 751, 752] (by decide +kernel) (by decide +kernel)
set_option maxRecDepth 20000 in
theorem gL_law_X8_move : GoodIn wsL_law (wsV RL 81 RX8 yX8_move wsX8_move) := goodIn_app (goodIn_of _ (by decide +kernel)) ggL_law_X8_move
set_option maxRecDepth 20000 in
theorem ggL_law_X7_seen : GoodIn wsL_law wsX7_seen := goodIn_r _ [576, 18, 577, 133, 134, 2, 135, 256, 257, 258, 578, 579, 580, 14, 581, 140, 49, 50, 723, 724, 725, 726, 727, 728, 729, 753, 754, 755, 756, 757, 758, 759, 760, 761] (by decide +kernel) (by decide +kernel)
set_option maxRecDepth 20000 in
theorem gL_law_X7_seen : GoodIn wsL_law (wsV RL 82 RX7 yX7_seen wsX7_seen) := goodIn_app (goodIn_of _ (by decide +kernel)) ggL_law_X7_seen
set_option maxRecDepth 20000 in
theorem ggL_law_X8_seen : GoodIn wsL_law wsX8_seen := goodIn_r _ [585, 127, 112, 145, 146, 5, 147, 305, 306, 307, 730, 731, 732, 733, 734, 735, 736, 737, 738, 739, 740, 741, 742, 743, 744, 745, 746, 747, 748, 749, 750, 751, 752] (by decide +kernel) (by decide +kernel)
set_option maxRecDepth 20000 in
theorem gL_law_X8_seen : GoodIn wsL_law (wsV RL 85 RX8 yX8_seen wsX8_seen) := goodIn_app (goodIn_of _ (by decide +kernel)) ggL_law_X8_seen
set_option maxRecDepth 20000 in
theorem ggL_law_X7_forget : GoodIn wsL_law wsX7_forget := goodIn_r _ [589, 18, 577, 723, 724, 725, 726, 727, 728, 729, 753, 754, 755, 756, 757, 758, 759, 760, 761] (by decide +kernel) (by decide +kernel)
set_option maxRecDepth 20000 in
theorem gL_law_X7_forget : GoodIn wsL_law (wsV RL 86 RX7 yX7_forget wsX7_forget) := goodIn_app (goodIn_of _ (by decide +kernel)) ggL_law_X7_forget
set_option maxRecDepth 20000 in
theorem ggL_law_X8_forget : GoodIn wsL_law wsX8_forget := goodIn_r _ [593, 127, 730, 731, 732, 733, 734, 735, 736, 737, 738, 739, 740, 741, 742, 743, 744, 745, 746, 747, 748, 749, 750, 751, 752] (by decide +kernel) (by decide +kernel)
set_option maxRecDepth 20000 in
theorem gL_law_X8_forget : GoodIn wsL_law (wsV RL 89 RX8 yX8_forget wsX8_forget) := goodIn_app (goodIn_of _ (by decide +kernel)) ggL_law_X8_forget
set_option maxRecDepth 20000 in
theorem ggL_law_X7_could : GoodIn wsL_law wsX7_could := goodIn_r _ [597, 18, 19, 152, 153, 154, 14, 155, 52, 256, 257, 2, 258, 598, 599, 600, 17, 601, 67, 602, 414, 415, 416, 70, 417, 418, 244, 245, 246, 603, 604, 605, 606, 607, 608, 609, 610, 260, 261, 262, 263, 264, 265, 266, 267, 268, 269, 270, 240, 241, 242, 271, 272, 273, 274, 275, 276, 277, 278, 279, 280, 281, 68, 282, 283, 284, 285, 286, 287, 288, 289, 290, 291, 292, 69, 293, 294, 295, 296, 297, 298, 299, 300, 723, 724, 725, 726, 727, 728, 729, 753, 754, 755, 756, 757, 758, 759, 760, 761, 762, 763, 764, 765, 766, 787, 788] (by decide +kernel) (by decide +kernel)
set_option maxRecDepth 20000 in
theorem gL_law_X7_could : GoodIn wsL_law (wsV RL 90 RX7 yX7_could wsX7_could) := goodIn_app (goodIn_of _ (by decide +kernel)) ggL_law_X7_could
set_option maxRecDepth 20000 in
theorem ggL_law_X8_could : GoodIn wsL_law wsX8_could := goodIn_r _ [614, 114, 127, 112, 164, 165, 166, 5, 167, 105, 145, 146, 147, 305, 306, 307, 308, 309, 310, 311, 312, 107, 313, 314, 315, 316, 317, 318, 319, 320, 110, 111, 116, 321, 322, 323, 324, 115, 325, 326, 327, 328, 106, 225, 226, 227, 219, 220, 221, 329, 330, 331, 332, 333, 334, 335, 730, 731, 732, 733, 734, 735, 736, 737, 738, 739, 740, 741, 742, 743, 744, 745, 746, 747, 748, 749, 750, 751, 752] (by decide +kernel) (by decide +kernel)
set_option maxRecDepth 20000 in
theorem gL_law_X8_could : GoodIn wsL_law (wsV RL 93 RX8 yX8_could wsX8_could) := goodIn_app (goodIn_of _ (by decide +kernel)) ggL_law_X8_could
set_option maxRecDepth 20000 in
theorem ggL_law_X7_rain : GoodIn wsL_law wsX7_rain := goodIn_r _ [618, 619, 35, 620, 621, 256, 257, 2, 258, 133, 134, 135, 622, 623, 624, 34, 625, 98, 626, 627, 628, 629, 630, 631, 632, 61, 633, 634, 635, 636, 637, 99, 100, 638, 639, 640, 641, 244, 245, 246, 642, 265, 266, 17, 267, 70, 268, 269, 270, 240, 241, 242, 271, 272, 273, 274, 275, 276, 277, 278, 279, 280, 281, 68, 282, 283, 284, 285, 286, 287, 288, 289, 290, 291, 292, 69, 293, 294, 295, 296, 297, 298, 299, 300, 643, 644, 645, 646, 723, 724, 725, 726, 727, 728, 729, 779, 780, 781, 782, 783, 784, 785, 786, 762, 763, 764, 765, 766, 753, 754, 755, 756, 757, 758, 759, 760, 761, 787, 788] (by decide +kernel) (by decide +kernel)
set_option maxRecDepth 20000 in
theorem gL_law_X7_rain : GoodIn wsL_law (wsV RL 94 RX7 yX7_rain wsX7_rain) := goodIn_app (goodIn_of _ (by decide +kernel)) ggL_law_X7_rain
set_option maxRecDepth 20000 in
theorem ggL_law_X8_rain : GoodIn wsL_law wsX8_rain := goodIn_r _ [650, 651, 312, 652, 305, 306, 5, 307, 145, 146, 147, 308, 309, 310, 311, 114, 107, 570, 571, 572, 317, 318, 319, 320, 110, 111, 116, 321, 322, 323, 324, 105, 115, 325, 326, 327, 328, 106, 225, 226, 227, 219, 220, 221, 329, 330, 331, 332, 333, 334, 335, 653, 654, 655, 730, 731, 732, 733, 734, 735, 736, 737, 738, 739, 740, 741, 742, 743, 744, 745, 746, 747, 748, 749, 750, 751, 752] (by decide +kernel) (by decide +kernel)
set_option maxRecDepth 20000 in
theorem gL_law_X8_rain : GoodIn wsL_law (wsV RL 98 RX8 yX8_rain wsX8_rain) := goodIn_app (goodIn_of _ (by decide +kernel)) ggL_law_X8_rain
set_option maxRecDepth 20000 in
theorem ggL_law_X7_year : GoodIn wsL_law wsX7_year := goodIn_r _ [659, 35, 660, 661, 662, 133, 134, 2, 135, 256, 257, 258, 663, 664, 665, 34, 666, 667, 668, 669, 100, 638, 670, 671, 672, 640, 673, 639, 674, 272, 241, 273, 642, 265, 266, 17, 267, 70, 268, 269, 270, 240, 242, 271, 274, 275, 276, 277, 278, 279, 280, 281, 68, 282, 283, 284, 285, 286, 287, 288, 289, 290, 291, 292, 69, 293, 294, 295, 296, 297, 298, 299, 300, 723, 724, 725, 726, 727, 728, 729, 779, 780, 781, 782, 783, 784, 785, 786, 762, 763, 764, 765, 766, 753, 754, 755, 756, 757, 758, 759, 760, 761, 787, 788] (by decide +kernel) (by decide +kernel)
set_option maxRecDepth 20000 in
theorem gL_law_X7_year : GoodIn wsL_law (wsV RL 99 RX7 yX7_year wsX7_year) := goodIn_app (goodIn_of _ (by decide +kernel)) ggL_law_X7_year
set_option maxRecDepth 20000 in
theorem ggL_law_X8_year : GoodIn wsL_law wsX8_year := goodIn_r _ [678, 105, 679, 114, 107, 109, 145, 146, 5, 147, 305, 306, 307, 308, 309, 310, 311, 312, 317, 318, 319, 320, 110, 111, 116, 321, 322, 323, 324, 115, 325, 326, 327, 328, 106, 225, 226, 227, 219, 220, 221, 329, 330, 331, 332, 333, 334, 335, 730, 731, 732, 733, 734, 735, 736, 737, 738, 739, 740, 741, 742, 743, 744, 745, 746, 747, 748, 749, 750, 751, 752] (by decide +kernel) (by decide +kernel)
set_option maxRecDepth 20000 in
theorem gL_law_X8_year : GoodIn wsL_law (wsV RL 102 RX8 yX8_year wsX8_year) := goodIn_app (goodIn_of _ (by decide +kernel)) ggL_law_X8_year
set_option maxRecDepth 20000 in
theorem ggL_law_X7_image : GoodIn wsL_law wsX7_image := goodIn_r _ [683, 36, 12, 13, 14, 18, 133, 134, 2, 135, 37, 38, 39, 40, 10, 11, 41, 42, 43, 44, 45, 46, 47, 48, 49, 50, 51, 52, 53, 54, 55, 56, 57, 58, 59, 60, 61, 62, 684, 685, 686, 687, 140, 688, 689, 690, 244, 245, 246, 691, 236, 237, 238, 239, 240, 241, 242, 243, 723, 724, 725, 726, 727, 728, 729, 753, 754, 755, 756, 757, 758, 759, 760, 761, 787, 788] (by decide +kernel) (by decide +kernel)
set_option maxRecDepth 20000 in
theorem gL_law_X7_image : GoodIn wsL_law (wsV RL 103 RX7 yX7_image wsX7_image) := goodIn_app (goodIn_of _ (by decide +kernel)) ggL_law_X7_image
set_option maxRecDepth 20000 in
theorem ggL_law_X8_image : GoodIn wsL_law wsX8_image := goodIn_r _ [695, 120, 106, 107, 108, 111, 112, 105, 109, 110, 127, 122, 145, 146, 5, 147, 730, 731, 732, 733, 734, 735, 736, 737, 738, 739, 740, 741, 742, 743, 744, 745, 746, 747, 748, 749, 750, 751, 752] (by decide +kernel) (by decide +kernel)
set_option maxRecDepth 20000 in
theorem gL_law_X8_image : GoodIn wsL_law (wsV RL 106 RX8 yX8_image wsX8_image) := goodIn_app (goodIn_of _ (by decide +kernel)) ggL_law_X8_image
set_option maxRecDepth 20000 in
theorem ggL_law_X7_restore : GoodIn wsL_law wsX7_restore := goodIn_r _ [699, 36, 18, 133, 134, 2, 135, 684, 685, 686, 14, 687, 52, 51, 140, 48, 688, 689, 42, 690, 244, 245, 246, 43, 44, 49, 50, 691, 236, 237, 47, 238, 239, 240, 241, 242, 58, 57, 243, 723, 724, 725, 726, 727, 728, 729, 753, 754, 755, 756, 757, 758, 759, 760, 761, 787, 788] (by decide +kernel) (by decide +kernel)
set_option maxRecDepth 20000 in
theorem gL_law_X7_restore : GoodIn wsL_law (wsV RL 107 RX7 yX7_restore wsX7_restore) := goodIn_app (goodIn_of _ (by decide +kernel)) ggL_law_X7_restore
set_option maxRecDepth 20000 in
theorem ggL_law_X8_restore : GoodIn wsL_law wsX8_restore := goodIn_r _ [703, 122, 106, 120, 107, 108, 111, 112, 105, 109, 110, 127, 145, 146, 5, 147, 730, 731, 732, 733, 734, 735, 736, 737, 738, 739, 740, 741, 742, 743, 744, 745, 746, 747, 748, 749, 750, 751, 752] (by decide +kernel) (by decide +kernel)
set_option maxRecDepth 20000 in
theorem gL_law_X8_restore : GoodIn wsL_law (wsV RL 110 RX8 yX8_restore wsX8_restore) := goodIn_app (goodIn_of _ (by decide +kernel)) ggL_law_X8_restore
set_option maxRecDepth 20000 in
theorem ggL_law_X7_told : GoodIn wsL_law wsX7_told := goodIn_r _ [707, 23, 181, 18, 132, 172, 232, 234, 577, 708, 709, 710, 2, 711, 712, 133, 134, 135, 713, 714, 715, 14, 716, 717, 153, 154, 155, 52, 718, 157, 158, 159, 42, 43, 44, 723, 724, 725, 726, 727, 728, 729, 767, 768, 753, 754, 755, 756, 757, 758, 759, 760, 761, 787, 788] (by decide +kernel) (by decide +kernel)
set_option maxRecDepth 20000 in
theorem gL_law_X7_told : GoodIn wsL_law (wsV RL 111 RX7 yX7_told wsX7_told) := goodIn_app (goodIn_of _ (by decide +kernel)) ggL_law_X7_told
set_option maxRecDepth 20000 in
theorem ggL_law_X8_told : GoodIn wsL_law wsX8_told := goodIn_r _ [722, 106, 107, 108, 110, 111, 191, 105, 109, 127, 145, 146, 5, 147, 164, 165, 166, 167, 730, 731, 732, 733, 734, 735, 736, 737, 738, 739, 740, 741, 742, 743, 744, 745, 746, 747, 748, 749, 750, 751, 752] (by decide +kernel) (by decide +kernel)
set_option maxRecDepth 20000 in
theorem gL_law_X8_told : GoodIn wsL_law (wsV RL 114 RX8 yX8_told wsX8_told) := goodIn_app (goodIn_of _ (by decide +kernel)) ggL_law_X8_told
