theorem inlX0 : ∀ w ∈ wsX00, w ∈ wsL_law := fun _ h => List.mem_append_left _ (List.mem_append_right _ h)
theorem inlX1 : ∀ w ∈ wsX10, w ∈ wsL_law := fun _ h => List.mem_append_left _ (List.mem_append_left _ (List.mem_append_left _ (List.mem_append_right _ h)))
theorem inlX2 : ∀ w ∈ wsX20, w ∈ wsL_law := fun _ h => List.mem_append_left _ (List.mem_append_left _ (List.mem_append_right _ h))
theorem inlX3 : ∀ w ∈ wsX30, w ∈ wsL_law := fun _ h => List.mem_append_left _ (List.mem_append_left _ (List.mem_append_left _ (List.mem_append_left _ (List.mem_append_left _ (List.mem_append_right _ h)))))
theorem inlX4 : ∀ w ∈ wsX40, w ∈ wsL_law := fun _ h => List.mem_append_left _ (List.mem_append_left _ (List.mem_append_left _ (List.mem_append_left _ (List.mem_append_right _ h))))
set_option maxRecDepth 20000 in
theorem ggL_law_X3_init : GoodIn wsL_law wsX3_init := goodIn_r _ [8, 9, 10, 11, 12, 13, 14, 15, 16, 17, 18, 19, 20, 21, 22, 23, 24, 25, 26, 27, 28, 29, 30, 31, 32, 33, 34, 35, 36, 37, 38, 39, 40, 41, 42, 43, 44, 45, 46, 47, 48, 49, 50, 51, 52, 53, 54, 716, 717, 718, 719, 720, 752, 753, 754, 755, 756, 757, 758, 759, 760, 761, 762, 763, 764, 765, 766, 767, 768, 769, 770, 771, 772, 773, 774, 775, 776, 777, 778, 779, 780, 781] (by decide +kernel) (by decide +kernel)
set_option maxRecDepth 20000 in
theorem gL_law_X3_init : GoodIn wsL_law (wsX3_init) := ggL_law_X3_init
set_option maxRecDepth 20000 in
theorem ggL_law_X4_init : GoodIn wsL_law wsX4_init := goodIn_r _ [57, 58, 10, 11, 30, 59, 60, 61, 62, 63, 64, 65, 66, 67, 68, 69, 70, 71, 72, 73, 74, 75, 76, 721, 722, 723, 724, 725, 726, 727, 728, 729, 730, 731, 732, 733, 734, 735, 736, 737, 738, 739, 740, 741, 742, 743, 744, 745, 746, 747, 748, 749, 750, 751] (by decide +kernel) (by decide +kernel)
set_option maxRecDepth 20000 in
theorem gL_law_X4_init : GoodIn wsL_law (wsX4_init) := ggL_law_X4_init
set_option maxRecDepth 20000 in
theorem ggL_law_X3_square : GoodIn wsL_law wsX3_square := goodIn_r _ [80, 25, 13, 19, 23, 81, 82, 83, 2, 84, 85, 86, 87, 15, 88, 32, 33, 89, 90, 91, 92, 34, 93, 94, 95, 96, 97, 98, 99, 18, 100, 101, 41, 102, 103, 104, 105, 106, 107, 108, 109, 110, 111, 112, 113, 114, 115, 116, 117, 118, 119, 120, 121, 122, 123, 124, 125, 126, 127, 128, 129, 130, 131, 39, 132, 133, 134, 135, 136, 137, 138, 139, 40, 140, 141, 142, 22, 143, 144, 145, 146, 147, 148, 149, 47, 48, 150, 151, 152, 153, 154, 54, 155, 156, 157, 158, 159, 46, 160, 161, 162, 163, 49, 164, 165, 166, 167, 50, 51, 52, 53, 716, 717, 718, 719, 720, 765, 766, 767, 768, 769, 770, 771, 772, 773, 774, 775, 776, 777, 778, 779, 780, 781, 752, 753, 754, 755, 756, 757, 758, 759, 760, 761, 762, 763, 764] (by decide +kernel) (by decide +kernel)
set_option maxRecDepth 20000 in
theorem gL_law_X3_square : GoodIn wsL_law (wsV RL 13 RX3 yX3_square wsX3_square) := goodIn_app (goodIn_of _ (by decide +kernel)) ggL_law_X3_square
set_option maxRecDepth 20000 in
theorem ggL_law_X4_square : GoodIn wsL_law wsX4_square := goodIn_r _ [171, 172, 73, 74, 173, 174, 175, 176, 177, 178, 179, 180, 181, 59, 67, 60, 68, 61, 69, 62, 70, 63, 71, 65, 66, 182, 183, 72, 184, 185, 5, 186, 187, 188, 189, 190, 191, 192, 193, 194, 195, 196, 197, 198, 199, 200, 201, 202, 203, 204, 205, 206, 207, 208, 209, 210, 75, 211, 212, 213, 214, 215, 216, 217, 218, 219, 220, 221, 222, 721, 722, 723, 724, 725, 726, 727, 728, 729, 730, 731, 732, 733, 734, 735, 736, 737, 738, 739, 740, 741, 742, 743, 744, 745, 746, 747, 748, 749, 750, 751] (by decide +kernel) (by decide +kernel)
set_option maxRecDepth 20000 in
theorem gL_law_X4_square : GoodIn wsL_law (wsV RL 17 RX4 yX4_square wsX4_square) := goodIn_app (goodIn_of _ (by decide +kernel)) ggL_law_X4_square
set_option maxRecDepth 20000 in
theorem ggL_law_X3_cellHas : GoodIn wsL_law wsX3_cellHas := goodIn_r _ [226, 23, 81, 227, 82, 83, 2, 84, 716, 717, 718, 719, 720, 765, 766, 767, 768, 769, 770, 771, 772, 773, 774, 775, 776, 777, 778, 779, 780, 781] (by decide +kernel) (by decide +kernel)
set_option maxRecDepth 20000 in
theorem gL_law_X3_cellHas : GoodIn wsL_law (wsV RL 18 RX3 yX3_cellHas wsX3_cellHas) := goodIn_app (goodIn_of _ (by decide +kernel)) ggL_law_X3_cellHas
set_option maxRecDepth 20000 in
theorem ggL_law_X4_cellHas : GoodIn wsL_law wsX4_cellHas := goodIn_r _ [231, 59, 232, 233, 234, 5, 235, 219, 220, 221, 222, 175, 177, 188, 189, 190, 721, 722, 723, 724, 725, 726, 727, 728, 729, 730, 731, 732, 733, 734, 735, 736, 737, 738, 739, 740, 741, 742, 743, 744, 745, 746, 747, 748, 749, 750, 751] (by decide +kernel) (by decide +kernel)
set_option maxRecDepth 20000 in
theorem gL_law_X4_cellHas : GoodIn wsL_law (wsV RL 22 RX4 yX4_cellHas wsX4_cellHas) := goodIn_app (goodIn_of _ (by decide +kernel)) ggL_law_X4_cellHas
set_option maxRecDepth 20000 in
theorem ggL_law_X3_ofThing : GoodIn wsL_law wsX3_ofThing := goodIn_r _ [239, 23, 240, 241, 242, 243, 244, 245, 82, 83, 2, 84, 246, 247, 248, 22, 249, 52, 50, 154, 250, 251, 252, 253, 152, 716, 717, 718, 719, 720, 765, 766, 767, 768, 769, 770, 771, 772, 773, 774, 775, 776, 777, 778, 779, 780, 781] (by decide +kernel) (by decide +kernel)
set_option maxRecDepth 20000 in
theorem gL_law_X3_ofThing : GoodIn wsL_law (wsV RL 23 RX3 yX3_ofThing wsX3_ofThing) := goodIn_app (goodIn_of _ (by decide +kernel)) ggL_law_X3_ofThing
set_option maxRecDepth 20000 in
theorem ggL_law_X4_ofThing : GoodIn wsL_law wsX4_ofThing := goodIn_r _ [257, 61, 62, 63, 65, 66, 258, 259, 260, 5, 261, 181, 188, 189, 190, 262, 263, 264, 265, 183, 182, 721, 722, 723, 724, 725, 726, 727, 728, 729, 730, 731, 732, 733, 734, 735, 736, 737, 738, 739, 740, 741, 742, 743, 744, 745, 746, 747, 748, 749, 750, 751] (by decide +kernel) (by decide +kernel)
set_option maxRecDepth 20000 in
theorem gL_law_X4_ofThing : GoodIn wsL_law (wsV RL 27 RX4 yX4_ofThing wsX4_ofThing) := goodIn_app (goodIn_of _ (by decide +kernel)) ggL_law_X4_ofThing
set_option maxRecDepth 20000 in
theorem ggL_law_X3_bench : GoodIn wsL_law wsX3_bench := goodIn_r _ [269, 23, 270, 271, 82, 83, 2, 84, 716, 717, 718, 719, 720, 765, 766, 767, 768, 769, 770, 771, 772, 773, 774, 775, 776, 777, 778, 779, 780, 781] (by decide +kernel) (by decide +kernel)
set_option maxRecDepth 20000 in
theorem gL_law_X3_bench : GoodIn wsL_law (wsV RL 28 RX3 yX3_bench wsX3_bench) := goodIn_app (goodIn_of _ (by decide +kernel)) ggL_law_X3_bench
set_option maxRecDepth 20000 in
theorem ggL_law_X4_bench : GoodIn wsL_law wsX4_bench := goodIn_r _ [275, 60, 276, 277, 278, 5, 279, 179, 188, 189, 190, 721, 722, 723, 724, 725, 726, 727, 728, 729, 730, 731, 732, 733, 734, 735, 736, 737, 738, 739, 740, 741, 742, 743, 744, 745, 746, 747, 748, 749, 750, 751] (by decide +kernel) (by decide +kernel)
set_option maxRecDepth 20000 in
theorem gL_law_X4_bench : GoodIn wsL_law (wsV RL 31 RX4 yX4_bench wsX4_bench) := goodIn_app (goodIn_of _ (by decide +kernel)) ggL_law_X4_bench
set_option maxRecDepth 20000 in
theorem ggL_law_X3_year : GoodIn wsL_law wsX3_year := goodIn_r _ [283, 23, 244, 284, 82, 83, 2, 84, 285, 286, 287, 22, 288, 146, 716, 717, 718, 719, 720, 765, 766, 767, 768, 769, 770, 771, 772, 773, 774, 775, 776, 777, 778, 779, 780, 781] (by decide +kernel) (by decide +kernel)
set_option maxRecDepth 20000 in
theorem gL_law_X3_year : GoodIn wsL_law (wsV RL 32 RX3 yX3_year wsX3_year) := goodIn_app (goodIn_of _ (by decide +kernel)) ggL_law_X3_year
set_option maxRecDepth 20000 in
theorem ggL_law_X4_year : GoodIn wsL_law wsX4_year := goodIn_r _ [292, 293, 175, 182, 183, 188, 189, 5, 190, 721, 722, 723, 724, 725, 726, 727, 728, 729, 730, 731, 732, 733, 734, 735, 736, 737, 738, 739, 740, 741, 742, 743, 744, 745, 746, 747, 748, 749, 750, 751] (by decide +kernel) (by decide +kernel)
set_option maxRecDepth 20000 in
theorem gL_law_X4_year : GoodIn wsL_law (wsV RL 36 RX4 yX4_year wsX4_year) := goodIn_app (goodIn_of _ (by decide +kernel)) ggL_law_X4_year
set_option maxRecDepth 20000 in
theorem ggL_law_X3_cut : GoodIn wsL_law wsX3_cut := goodIn_r _ [297, 23, 240, 298, 82, 83, 2, 84, 250, 251, 252, 22, 253, 152, 716, 717, 718, 719, 720, 765, 766, 767, 768, 769, 770, 771, 772, 773, 774, 775, 776, 777, 778, 779, 780, 781] (by decide +kernel) (by decide +kernel)
set_option maxRecDepth 20000 in
theorem gL_law_X3_cut : GoodIn wsL_law (wsV RL 37 RX3 yX3_cut wsX3_cut) := goodIn_app (goodIn_of _ (by decide +kernel)) ggL_law_X3_cut
set_option maxRecDepth 20000 in
theorem ggL_law_X4_cut : GoodIn wsL_law wsX4_cut := goodIn_r _ [302, 65, 258, 259, 260, 5, 261, 181, 188, 189, 190, 721, 722, 723, 724, 725, 726, 727, 728, 729, 730, 731, 732, 733, 734, 735, 736, 737, 738, 739, 740, 741, 742, 743, 744, 745, 746, 747, 748, 749, 750, 751] (by decide +kernel) (by decide +kernel)
set_option maxRecDepth 20000 in
theorem gL_law_X4_cut : GoodIn wsL_law (wsV RL 40 RX4 yX4_cut wsX4_cut) := goodIn_app (goodIn_of _ (by decide +kernel)) ggL_law_X4_cut
set_option maxRecDepth 20000 in
theorem ggL_law_X3_price : GoodIn wsL_law wsX3_price := goodIn_r _ [306, 23, 240, 245, 82, 83, 2, 84, 716, 717, 718, 719, 720, 765, 766, 767, 768, 769, 770, 771, 772, 773, 774, 775, 776, 777, 778, 779, 780, 781] (by decide +kernel) (by decide +kernel)
set_option maxRecDepth 20000 in
theorem gL_law_X3_price : GoodIn wsL_law (wsV RL 41 RX3 yX3_price wsX3_price) := goodIn_app (goodIn_of _ (by decide +kernel)) ggL_law_X3_price
set_option maxRecDepth 20000 in
theorem ggL_law_X4_price : GoodIn wsL_law wsX4_price := goodIn_r _ [310, 311, 66, 258, 259, 260, 5, 261, 181, 188, 189, 190, 721, 722, 723, 724, 725, 726, 727, 728, 729, 730, 731, 732, 733, 734, 735, 736, 737, 738, 739, 740, 741, 742, 743, 744, 745, 746, 747, 748, 749, 750, 751] (by decide +kernel) (by decide +kernel)
set_option maxRecDepth 20000 in
theorem gL_law_X4_price : GoodIn wsL_law (wsV RL 44 RX4 yX4_price wsX4_price) := goodIn_app (goodIn_of _ (by decide +kernel)) ggL_law_X4_price
set_option maxRecDepth 20000 in
theorem ggL_law_X3_statue : GoodIn wsL_law wsX3_statue := goodIn_r _ [315, 23, 81, 316, 317, 82, 83, 2, 84, 318, 319, 320, 22, 321, 46, 716, 717, 718, 719, 720, 765, 766, 767, 768, 769, 770, 771, 772, 773, 774, 775, 776, 777, 778, 779, 780, 781] (by decide +kernel) (by decide +kernel)
set_option maxRecDepth 20000 in
theorem gL_law_X3_statue : GoodIn wsL_law (wsV RL 45 RX3 yX3_statue wsX3_statue) := goodIn_app (goodIn_of _ (by decide +kernel)) ggL_law_X3_statue
set_option maxRecDepth 20000 in
theorem ggL_law_X4_statue : GoodIn wsL_law wsX4_statue := goodIn_r _ [325, 311, 59, 72, 326, 232, 233, 234, 5, 235, 219, 220, 221, 222, 175, 177, 188, 189, 190, 721, 722, 723, 724, 725, 726, 727, 728, 729, 730, 731, 732, 733, 734, 735, 736, 737, 738, 739, 740, 741, 742, 743, 744, 745, 746, 747, 748, 749, 750, 751] (by decide +kernel) (by decide +kernel)
set_option maxRecDepth 20000 in
theorem gL_law_X4_statue : GoodIn wsL_law (wsV RL 48 RX4 yX4_statue wsX4_statue) := goodIn_app (goodIn_of _ (by decide +kernel)) ggL_law_X4_statue
set_option maxRecDepth 20000 in
theorem ggL_law_X3_seen : GoodIn wsL_law wsX3_seen := goodIn_r _ [330, 23, 270, 316, 82, 83, 2, 84, 331, 332, 333, 22, 334, 54, 335, 336, 337, 338, 155, 339, 153, 340, 341, 342, 343, 49, 46, 344, 345, 346, 347, 47, 348, 349, 350, 351, 48, 352, 353, 354, 355, 251, 252, 253, 152, 356, 247, 248, 249, 52, 50, 154, 716, 717, 718, 719, 720, 765, 766, 767, 768, 769, 770, 771, 772, 773, 774, 775, 776, 777, 778, 779, 780, 781] (by decide +kernel) (by decide +kernel)
set_option maxRecDepth 20000 in
theorem gL_law_X3_seen : GoodIn wsL_law (wsV RL 49 RX3 yX3_seen wsX3_seen) := goodIn_app (goodIn_of _ (by decide +kernel)) ggL_law_X3_seen
set_option maxRecDepth 20000 in
theorem ggL_law_X4_seen : GoodIn wsL_law wsX4_seen := goodIn_r _ [360, 72, 326, 276, 277, 278, 5, 279, 179, 188, 189, 190, 361, 362, 363, 364, 365, 366, 367, 368, 177, 60, 59, 65, 369, 370, 371, 372, 373, 374, 262, 263, 264, 265, 61, 63, 183, 182, 721, 722, 723, 724, 725, 726, 727, 728, 729, 730, 731, 732, 733, 734, 735, 736, 737, 738, 739, 740, 741, 742, 743, 744, 745, 746, 747, 748, 749, 750, 751] (by decide +kernel) (by decide +kernel)
set_option maxRecDepth 20000 in
theorem gL_law_X4_seen : GoodIn wsL_law (wsV RL 52 RX4 yX4_seen wsX4_seen) := goodIn_app (goodIn_of _ (by decide +kernel)) ggL_law_X4_seen
set_option maxRecDepth 20000 in
theorem ggL_law_X3_whole : GoodIn wsL_law wsX3_whole := goodIn_r _ [378, 23, 331, 332, 333, 22, 334, 54, 379, 380, 381, 382, 147, 153, 383, 384, 385, 386, 155, 340, 341, 342, 343, 49, 46, 344, 345, 346, 347, 47, 348, 349, 350, 351, 48, 352, 353, 354, 355, 251, 252, 253, 152, 356, 247, 248, 249, 52, 50, 154, 716, 717, 718, 719, 720, 765, 766, 767, 768, 769, 770, 771, 772, 773, 774, 775, 776, 777, 778, 779, 780, 781] (by decide +kernel) (by decide +kernel)
set_option maxRecDepth 20000 in
theorem gL_law_X3_whole : GoodIn wsL_law (wsV RL 53 RX3 yX3_whole wsX3_whole) := goodIn_app (goodIn_of _ (by decide +kernel)) ggL_law_X3_whole
set_option maxRecDepth 20000 in
theorem ggL_law_X4_whole : GoodIn wsL_law wsX4_whole := goodIn_r _ [390, 72, 326, 391, 392, 393, 5, 394, 179, 361, 362, 363, 364, 365, 366, 367, 368, 177, 60, 59, 65, 369, 370, 371, 372, 373, 374, 262, 263, 264, 265, 61, 63, 183, 182, 721, 722, 723, 724, 725, 726, 727, 728, 729, 730, 731, 732, 733, 734, 735, 736, 737, 738, 739, 740, 741, 742, 743, 744, 745, 746, 747, 748, 749, 750, 751] (by decide +kernel) (by decide +kernel)
set_option maxRecDepth 20000 in
theorem gL_law_X4_whole : GoodIn wsL_law (wsV RL 57 RX4 yX4_whole wsX4_whole) := goodIn_app (goodIn_of _ (by decide +kernel)) ggL_law_X4_whole
set_option maxRecDepth 20000 in
theorem ggL_law_X3_hidden : GoodIn wsL_law wsX3_hidden := goodIn_r _ [398, 23, 270, 82, 83, 2, 84, 331, 332, 333, 22, 334, 54, 399, 400, 401, 402, 155, 153, 340, 341, 342, 343, 49, 46, 344, 345, 346, 347, 47, 348, 349, 350, 351, 48, 352, 353, 354, 355, 251, 252, 253, 152, 356, 247, 248, 249, 52, 50, 154, 716, 717, 718, 719, 720, 765, 766, 767, 768, 769, 770, 771, 772, 773, 774, 775, 776, 777, 778, 779, 780, 781] (by decide +kernel) (by decide +kernel)
set_option maxRecDepth 20000 in
theorem gL_law_X3_hidden : GoodIn wsL_law (wsV RL 58 RX3 yX3_hidden wsX3_hidden) := goodIn_app (goodIn_of _ (by decide +kernel)) ggL_law_X3_hidden
set_option maxRecDepth 20000 in
theorem ggL_law_X4_hidden : GoodIn wsL_law wsX4_hidden := goodIn_r _ [406, 72, 276, 277, 278, 5, 279, 179, 188, 189, 190, 407, 408, 409, 410, 326, 365, 366, 367, 368, 177, 60, 59, 65, 369, 370, 371, 372, 373, 374, 262, 263, 264, 265, 61, 63, 183, 182, 721, 722, 723, 724, 725, 726, 727, 728, 729, 730, 731, 732, 733, 734, 735, 736, 737, 738, 739, 740, 741, 742, 743, 744, 745, 746, 747, 748, 749, 750, 751] (by decide +kernel) (by decide +kernel)
set_option maxRecDepth 20000 in
theorem gL_law_X4_hidden : GoodIn wsL_law (wsV RL 61 RX4 yX4_hidden wsX4_hidden) := goodIn_app (goodIn_of _ (by decide +kernel)) ggL_law_X4_hidden
set_option maxRecDepth 20000 in
theorem ggL_law_X3_sight : GoodIn wsL_law wsX3_sight := goodIn_r _ [414, 23, 415, 270, 416, 353, 350, 354, 82, 83, 2, 84, 331, 332, 333, 22, 334, 54, 417, 418, 419, 420, 147, 421, 336, 337, 338, 155, 339, 153, 340, 341, 342, 343, 49, 46, 344, 345, 346, 347, 47, 348, 349, 351, 48, 352, 355, 251, 252, 253, 152, 356, 247, 248, 249, 52, 50, 154, 422, 423, 424, 425, 426, 427, 428, 429, 430, 431, 716, 717, 718, 719, 720, 765, 766, 767, 768, 769, 770, 771, 772, 773, 774, 775, 776, 777, 778, 779, 780, 781] (by decide +kernel) (by decide +kernel)
set_option maxRecDepth 20000 in
theorem gL_law_X3_sight : GoodIn wsL_law (wsV RL 62 RX3 yX3_sight wsX3_sight) := goodIn_app (goodIn_of _ (by decide +kernel)) ggL_law_X3_sight
set_option maxRecDepth 20000 in
theorem ggL_law_X4_sight : GoodIn wsL_law wsX4_sight := goodIn_r _ [435, 72, 179, 326, 188, 189, 5, 190, 436, 437, 438, 439, 361, 362, 363, 364, 365, 366, 367, 368, 177, 60, 59, 65, 369, 370, 371, 372, 373, 374, 262, 263, 264, 265, 61, 63, 183, 182, 440, 441, 442, 721, 722, 723, 724, 725, 726, 727, 728, 729, 730, 731, 732, 733, 734, 735, 736, 737, 738, 739, 740, 741, 742, 743, 744, 745, 746, 747, 748, 749, 750, 751] (by decide +kernel) (by decide +kernel)
set_option maxRecDepth 20000 in
theorem gL_law_X4_sight : GoodIn wsL_law (wsV RL 66 RX4 yX4_sight wsX4_sight) := goodIn_app (goodIn_of _ (by decide +kernel)) ggL_law_X4_sight
set_option maxRecDepth 20000 in
theorem ggL_law_X3_best : GoodIn wsL_law wsX3_best := goodIn_r _ [446, 23, 82, 83, 2, 84, 285, 286, 287, 22, 288, 146, 447, 448, 449, 450, 451, 319, 320, 321, 46, 452, 453, 454, 455, 147, 153, 340, 341, 342, 343, 49, 344, 345, 346, 347, 47, 348, 349, 350, 351, 48, 352, 353, 354, 355, 251, 252, 253, 152, 356, 247, 248, 249, 52, 50, 154, 456, 716, 717, 718, 719, 720, 765, 766, 767, 768, 769, 770, 771, 772, 773, 774, 775, 776, 777, 778, 779, 780, 781] (by decide +kernel) (by decide +kernel)
set_option maxRecDepth 20000 in
theorem gL_law_X3_best : GoodIn wsL_law (wsV RL 67 RX3 yX3_best wsX3_best) := goodIn_app (goodIn_of _ (by decide +kernel)) ggL_law_X3_best
set_option maxRecDepth 20000 in
theorem ggL_law_X4_best : GoodIn wsL_law wsX4_best := goodIn_r _ [460, 311, 175, 59, 188, 189, 5, 190, 219, 220, 221, 222, 177, 391, 392, 393, 394, 179, 361, 362, 363, 364, 365, 366, 367, 368, 60, 65, 369, 370, 371, 372, 373, 374, 262, 263, 264, 265, 61, 63, 183, 182, 440, 441, 442, 721, 722, 723, 724, 725, 726, 727, 728, 729, 730, 731, 732, 733, 734, 735, 736, 737, 738, 739, 740, 741, 742, 743, 744, 745, 746, 747, 748, 749, 750, 751] (by decide +kernel) (by decide +kernel)
set_option maxRecDepth 20000 in
theorem gL_law_X4_best : GoodIn wsL_law (wsV RL 70 RX4 yX4_best wsX4_best) := goodIn_app (goodIn_of _ (by decide +kernel)) ggL_law_X4_best
set_option maxRecDepth 20000 in
theorem ggL_law_X3_block : GoodIn wsL_law wsX3_block := goodIn_r _ [464, 23, 81, 82, 83, 2, 84, 318, 319, 320, 22, 321, 46, 465, 466, 467, 468, 452, 453, 454, 455, 147, 153, 340, 341, 342, 343, 49, 344, 345, 346, 347, 47, 348, 349, 350, 351, 48, 352, 353, 354, 355, 251, 252, 253, 152, 356, 247, 248, 249, 52, 50, 154, 456, 716, 717, 718, 719, 720, 765, 766, 767, 768, 769, 770, 771, 772, 773, 774, 775, 776, 777, 778, 779, 780, 781] (by decide +kernel) (by decide +kernel)
set_option maxRecDepth 20000 in
theorem gL_law_X3_block : GoodIn wsL_law (wsV RL 71 RX3 yX3_block wsX3_block) := goodIn_app (goodIn_of _ (by decide +kernel)) ggL_law_X3_block
set_option maxRecDepth 20000 in
theorem ggL_law_X4_block : GoodIn wsL_law wsX4_block := goodIn_r _ [472, 59, 232, 233, 234, 5, 235, 219, 220, 221, 222, 175, 177, 188, 189, 190, 391, 392, 393, 394, 179, 361, 362, 363, 364, 365, 366, 367, 368, 60, 65, 369, 370, 371, 372, 373, 374, 262, 263, 264, 265, 61, 63, 183, 182, 440, 441, 442, 721, 722, 723, 724, 725, 726, 727, 728, 729, 730, 731, 732, 733, 734, 735, 736, 737, 738, 739, 740, 741, 742, 743, 744, 745, 746, 747, 748, 749, 750, 751] (by decide +kernel) (by decide +kernel)
set_option maxRecDepth 20000 in
theorem gL_law_X4_block : GoodIn wsL_law (wsV RL 74 RX4 yX4_block wsX4_block) := goodIn_app (goodIn_of _ (by decide +kernel)) ggL_law_X4_block
set_option maxRecDepth 20000 in
theorem ggL_law_X3_cuts : GoodIn wsL_law wsX3_cuts := goodIn_r _ [476, 23, 82, 83, 2, 84, 331, 332, 333, 22, 334, 54, 477, 478, 479, 480, 147, 481, 400, 401, 402, 155, 153, 340, 341, 342, 343, 49, 46, 344, 345, 346, 347, 47, 348, 349, 350, 351, 48, 352, 353, 354, 355, 251, 252, 253, 152, 356, 247, 248, 249, 52, 50, 154, 482, 483, 484, 485, 148, 53, 716, 717, 718, 719, 720, 765, 766, 767, 768, 769, 770, 771, 772, 773, 774, 775, 776, 777, 778, 779, 780, 781] (by decide +kernel) (by decide +kernel)
set_option maxRecDepth 20000 in
theorem gL_law_X3_cuts : GoodIn wsL_law (wsV RL 75 RX3 yX3_cuts wsX3_cuts) := goodIn_app (goodIn_of _ (by decide +kernel)) ggL_law_X3_cuts
set_option maxRecDepth 20000 in
theorem ggL_law_X4_cuts : GoodIn wsL_law wsX4_cuts := goodIn_r _ [489, 72, 179, 181, 66, 188, 189, 5, 190, 407, 408, 409, 410, 326, 365, 366, 367, 368, 177, 60, 59, 65, 369, 370, 371, 372, 373, 374, 262, 263, 264, 265, 61, 63, 183, 182, 721, 722, 723, 724, 725, 726, 727, 728, 729, 730, 731, 732, 733, 734, 735, 736, 737, 738, 739, 740, 741, 742, 743, 744, 745, 746, 747, 748, 749, 750, 751] (by decide +kernel) (by decide +kernel)
set_option maxRecDepth 20000 in
theorem gL_law_X4_cuts : GoodIn wsL_law (wsV RL 78 RX4 yX4_cuts wsX4_cuts) := goodIn_app (goodIn_of _ (by decide +kernel)) ggL_law_X4_cuts
set_option maxRecDepth 20000 in
theorem ggL_law_X3_complaints : GoodIn wsL_law wsX3_complaints := goodIn_r _ [493, 23, 244, 331, 332, 333, 22, 334, 54, 494, 384, 385, 386, 147, 155, 340, 341, 342, 343, 49, 46, 344, 345, 346, 347, 47, 348, 349, 350, 351, 48, 352, 353, 354, 355, 251, 252, 253, 152, 356, 247, 248, 249, 52, 50, 154, 716, 717, 718, 719, 720, 765, 766, 767, 768, 769, 770, 771, 772, 773, 774, 775, 776, 777, 778, 779, 780, 781] (by decide +kernel) (by decide +kernel)
set_option maxRecDepth 20000 in
theorem gL_law_X3_complaints : GoodIn wsL_law (wsV RL 79 RX3 yX3_complaints wsX3_complaints) := goodIn_app (goodIn_of _ (by decide +kernel)) ggL_law_X3_complaints
set_option maxRecDepth 20000 in
theorem ggL_law_X4_complaints : GoodIn wsL_law wsX4_complaints := goodIn_r _ [498, 72, 499, 500, 501, 5, 502, 179, 326, 391, 392, 393, 394, 361, 362, 363, 364, 365, 366, 367, 368, 177, 60, 59, 65, 369, 370, 371, 372, 373, 374, 262, 263, 264, 265, 61, 63, 183, 182, 721, 722, 723, 724, 725, 726, 727, 728, 729, 730, 731, 732, 733, 734, 735, 736, 737, 738, 739, 740, 741, 742, 743, 744, 745, 746, 747, 748, 749, 750, 751] (by decide +kernel) (by decide +kernel)
set_option maxRecDepth 20000 in
theorem gL_law_X4_complaints : GoodIn wsL_law (wsV RL 82 RX4 yX4_complaints wsX4_complaints) := goodIn_app (goodIn_of _ (by decide +kernel)) ggL_law_X4_complaints
set_option maxRecDepth 20000 in
theorem ggL_law_X3_moved : GoodIn wsL_law wsX3_moved := goodIn_r _ [506, 23, 270, 331, 332, 333, 22, 334, 54, 507, 508, 509, 510, 148, 153, 355, 251, 252, 253, 152, 383, 384, 385, 386, 147, 155, 340, 341, 342, 343, 49, 46, 344, 345, 346, 347, 47, 348, 349, 350, 351, 48, 352, 353, 354, 356, 247, 248, 249, 52, 50, 154, 716, 717, 718, 719, 720, 765, 766, 767, 768, 769, 770, 771, 772, 773, 774, 775, 776, 777, 778, 779, 780, 781] (by decide +kernel) (by decide +kernel)
set_option maxRecDepth 20000 in
theorem gL_law_X3_moved : GoodIn wsL_law (wsV RL 83 RX3 yX3_moved wsX3_moved) := goodIn_app (goodIn_of _ (by decide +kernel)) ggL_law_X3_moved
set_option maxRecDepth 20000 in
theorem ggL_law_X4_moved : GoodIn wsL_law wsX4_moved := goodIn_r _ [514, 179, 72, 181, 65, 499, 500, 501, 5, 502, 326, 391, 392, 393, 394, 361, 362, 363, 364, 365, 366, 367, 368, 177, 60, 59, 369, 370, 371, 372, 373, 374, 262, 263, 264, 265, 61, 63, 183, 182, 721, 722, 723, 724, 725, 726, 727, 728, 729, 730, 731, 732, 733, 734, 735, 736, 737, 738, 739, 740, 741, 742, 743, 744, 745, 746, 747, 748, 749, 750, 751] (by decide +kernel) (by decide +kernel)
set_option maxRecDepth 20000 in
theorem gL_law_X4_moved : GoodIn wsL_law (wsV RL 86 RX4 yX4_moved wsX4_moved) := goodIn_app (goodIn_of _ (by decide +kernel)) ggL_law_X4_moved
set_option maxRecDepth 20000 in
theorem ggL_law_X3_years : GoodIn wsL_law wsX3_years := goodIn_r _ [518, 23, 331, 332, 333, 22, 334, 54, 519, 520, 521, 522, 153, 383, 384, 385, 386, 147, 155, 340, 341, 342, 343, 49, 46, 344, 345, 346, 347, 47, 348, 349, 350, 351, 48, 352, 353, 354, 355, 251, 252, 253, 152, 356, 247, 248, 249, 52, 50, 154, 716, 717, 718, 719, 720, 765, 766, 767, 768, 769, 770, 771, 772, 773, 774, 775, 776, 777, 778, 779, 780, 781] (by decide +kernel) (by decide +kernel)
set_option maxRecDepth 20000 in
theorem gL_law_X3_years : GoodIn wsL_law (wsV RL 87 RX3 yX3_years wsX3_years) := goodIn_app (goodIn_of _ (by decide +kernel)) ggL_law_X3_years
set_option maxRecDepth 20000 in
theorem ggL_law_X4_years : GoodIn wsL_law wsX4_years := goodIn_r _ [526, 72, 182, 499, 500, 501, 5, 502, 179, 326, 391, 392, 393, 394, 361, 362, 363, 364, 365, 366, 367, 368, 177, 60, 59, 65, 369, 370, 371, 372, 373, 374, 262, 263, 264, 265, 61, 63, 183, 721, 722, 723, 724, 725, 726, 727, 728, 729, 730, 731, 732, 733, 734, 735, 736, 737, 738, 739, 740, 741, 742, 743, 744, 745, 746, 747, 748, 749, 750, 751] (by decide +kernel) (by decide +kernel)
set_option maxRecDepth 20000 in
theorem gL_law_X4_years : GoodIn wsL_law (wsV RL 90 RX4 yX4_years wsX4_years) := goodIn_app (goodIn_of _ (by decide +kernel)) ggL_law_X4_years
set_option maxRecDepth 20000 in
theorem ggL_law_X3_second : GoodIn wsL_law wsX3_second := goodIn_r _ [530, 23, 415, 331, 332, 333, 22, 334, 54, 531, 532, 533, 534, 146, 535, 380, 381, 382, 147, 153, 383, 384, 385, 386, 155, 340, 341, 342, 343, 49, 46, 344, 345, 346, 347, 47, 348, 349, 350, 351, 48, 352, 353, 354, 355, 251, 252, 253, 152, 356, 247, 248, 249, 52, 50, 154, 451, 319, 320, 321, 536, 537, 538, 539, 421, 336, 337, 338, 339, 716, 717, 718, 719, 720, 765, 766, 767, 768, 769, 770, 771, 772, 773, 774, 775, 776, 777, 778, 779, 780, 781] (by decide +kernel) (by decide +kernel)
set_option maxRecDepth 20000 in
theorem gL_law_X3_second : GoodIn wsL_law (wsV RL 91 RX3 yX3_second wsX3_second) := goodIn_app (goodIn_of _ (by decide +kernel)) ggL_law_X3_second
set_option maxRecDepth 20000 in
theorem ggL_law_X4_second : GoodIn wsL_law wsX4_second := goodIn_r _ [543, 72, 326, 59, 436, 437, 5, 438, 439, 391, 392, 393, 394, 179, 361, 362, 363, 364, 365, 366, 367, 368, 177, 60, 65, 369, 370, 371, 372, 373, 374, 262, 263, 264, 265, 61, 63, 183, 182, 219, 220, 221, 222, 175, 544, 545, 546, 547, 721, 722, 723, 724, 725, 726, 727, 728, 729, 730, 731, 732, 733, 734, 735, 736, 737, 738, 739, 740, 741, 742, 743, 744, 745, 746, 747, 748, 749, 750, 751] (by decide +kernel) (by decide +kernel)
set_option maxRecDepth 20000 in
theorem gL_law_X4_second : GoodIn wsL_law (wsV RL 95 RX4 yX4_second wsX4_second) := goodIn_app (goodIn_of _ (by decide +kernel)) ggL_law_X4_second
set_option maxRecDepth 20000 in
theorem ggL_law_X3_lit : GoodIn wsL_law wsX3_lit := goodIn_r _ [551, 23, 82, 83, 2, 84, 331, 332, 333, 22, 334, 54, 552, 553, 554, 555, 148, 556, 557, 558, 559, 560, 561, 562, 563, 47, 51, 348, 349, 350, 351, 48, 50, 155, 339, 153, 355, 251, 252, 253, 152, 356, 247, 248, 249, 52, 154, 564, 716, 717, 718, 719, 720, 765, 766, 767, 768, 769, 770, 771, 772, 773, 774, 775, 776, 777, 778, 779, 780, 781] (by decide +kernel) (by decide +kernel)
set_option maxRecDepth 20000 in
theorem gL_law_X3_lit : GoodIn wsL_law (wsV RL 96 RX3 yX3_lit wsX3_lit) := goodIn_app (goodIn_of _ (by decide +kernel)) ggL_law_X3_lit
set_option maxRecDepth 20000 in
theorem ggL_law_X4_lit : GoodIn wsL_law wsX4_lit := goodIn_r _ [568, 72, 181, 188, 189, 5, 190, 569, 570, 571, 572, 573, 574, 575, 576, 62, 177, 61, 65, 326, 369, 370, 371, 262, 263, 264, 265, 63, 183, 182, 440, 441, 442, 721, 722, 723, 724, 725, 726, 727, 728, 729, 730, 731, 732, 733, 734, 735, 736, 737, 738, 739, 740, 741, 742, 743, 744, 745, 746, 747, 748, 749, 750, 751] (by decide +kernel) (by decide +kernel)
set_option maxRecDepth 20000 in
theorem gL_law_X4_lit : GoodIn wsL_law (wsV RL 99 RX4 yX4_lit wsX4_lit) := goodIn_app (goodIn_of _ (by decide +kernel)) ggL_law_X4_lit
set_option maxRecDepth 20000 in
theorem ggL_law_X3_sheet : GoodIn wsL_law wsX3_sheet := goodIn_r _ [580, 25, 13, 82, 83, 2, 84, 93, 94, 95, 96, 581, 582, 583, 15, 584, 32, 33, 34, 31, 716, 717, 718, 719, 720, 752, 753, 754, 755] (by decide +kernel) (by decide +kernel)
set_option maxRecDepth 20000 in
theorem gL_law_X3_sheet : GoodIn wsL_law (wsV RL 100 RX3 yX3_sheet wsX3_sheet) := goodIn_app (goodIn_of _ (by decide +kernel)) ggL_law_X3_sheet
set_option maxRecDepth 20000 in
theorem ggL_law_X4_sheet : GoodIn wsL_law wsX4_sheet := goodIn_r _ [588, 172, 73, 74, 75, 184, 185, 5, 186, 187, 188, 189, 190, 191, 192, 193, 194, 195, 196, 197, 198, 199, 721, 722, 723, 724, 725, 726, 727, 728, 729, 730, 731, 732, 733, 734, 735, 736, 737, 738, 739, 740, 741, 742, 743, 744, 745, 746, 747, 748, 749, 750, 751] (by decide +kernel) (by decide +kernel)
set_option maxRecDepth 20000 in
theorem gL_law_X4_sheet : GoodIn wsL_law (wsV RL 104 RX4 yX4_sheet wsX4_sheet) := goodIn_app (goodIn_of _ (by decide +kernel)) ggL_law_X4_sheet
set_option maxRecDepth 20000 in
theorem ggL_law_X3_lose : GoodIn wsL_law wsX3_lose := goodIn_r _ [592, 13, 593, 82, 83, 2, 84, 716, 717, 718, 719, 720, 752, 753, 754, 755] (by decide +kernel) (by decide +kernel)
set_option maxRecDepth 20000 in
theorem gL_law_X3_lose : GoodIn wsL_law (wsV RL 105 RX3 yX3_lose wsX3_lose) := goodIn_app (goodIn_of _ (by decide +kernel)) ggL_law_X3_lose
set_option maxRecDepth 20000 in
theorem ggL_law_X4_lose : GoodIn wsL_law wsX4_lose := goodIn_r _ [597, 73, 184, 185, 5, 186, 187, 188, 189, 190, 721, 722, 723, 724, 725, 726, 727, 728, 729, 730, 731, 732, 733, 734, 735, 736, 737, 738, 739, 740, 741, 742, 743, 744, 745, 746, 747, 748, 749, 750, 751] (by decide +kernel) (by decide +kernel)
set_option maxRecDepth 20000 in
theorem gL_law_X4_lose : GoodIn wsL_law (wsV RL 108 RX4 yX4_lose wsX4_lose) := goodIn_app (goodIn_of _ (by decide +kernel)) ggL_law_X4_lose
set_option maxRecDepth 20000 in
theorem ggL_law_X3_put : GoodIn wsL_law wsX3_put := goodIn_r _ [601, 25, 13, 593, 602, 82, 83, 2, 84, 93, 94, 95, 96, 603, 604, 605, 15, 606, 33, 31, 716, 717, 718, 719, 720, 752, 753, 754, 755] (by decide +kernel) (by decide +kernel)
set_option maxRecDepth 20000 in
theorem gL_law_X3_put : GoodIn wsL_law (wsV RL 109 RX3 yX3_put wsX3_put) := goodIn_app (goodIn_of _ (by decide +kernel)) ggL_law_X3_put
set_option maxRecDepth 20000 in
theorem ggL_law_X4_put : GoodIn wsL_law wsX4_put := goodIn_r _ [610, 75, 74, 184, 185, 5, 186, 187, 188, 189, 190, 191, 192, 193, 194, 195, 611, 612, 613, 614, 73, 196, 197, 198, 199, 721, 722, 723, 724, 725, 726, 727, 728, 729, 730, 731, 732, 733, 734, 735, 736, 737, 738, 739, 740, 741, 742, 743, 744, 745, 746, 747, 748, 749, 750, 751] (by decide +kernel) (by decide +kernel)
set_option maxRecDepth 20000 in
theorem gL_law_X4_put : GoodIn wsL_law (wsV RL 112 RX4 yX4_put wsX4_put) := goodIn_app (goodIn_of _ (by decide +kernel)) ggL_law_X4_put
set_option maxRecDepth 20000 in
theorem ggL_law_X3_cell : GoodIn wsL_law wsX3_cell := goodIn_r _ [618, 25, 415, 13, 602, 619, 82, 83, 2, 84, 85, 86, 87, 15, 88, 32, 33, 716, 717, 718, 719, 720, 752, 753, 754, 755] (by decide +kernel) (by decide +kernel)
set_option maxRecDepth 20000 in
theorem gL_law_X3_cell : GoodIn wsL_law (wsV RL 113 RX3 yX3_cell wsX3_cell) := goodIn_app (goodIn_of _ (by decide +kernel)) ggL_law_X3_cell
set_option maxRecDepth 20000 in
theorem ggL_law_X4_cell : GoodIn wsL_law wsX4_cell := goodIn_r _ [623, 195, 172, 73, 74, 75, 184, 185, 5, 186, 187, 188, 189, 190, 436, 437, 438, 439, 624, 625, 626, 627, 611, 612, 613, 614, 721, 722, 723, 724, 725, 726, 727, 728, 729, 730, 731, 732, 733, 734, 735, 736, 737, 738, 739, 740, 741, 742, 743, 744, 745, 746, 747, 748, 749, 750, 751] (by decide +kernel) (by decide +kernel)
set_option maxRecDepth 20000 in
theorem gL_law_X4_cell : GoodIn wsL_law (wsV RL 117 RX4 yX4_cell wsX4_cell) := goodIn_app (goodIn_of _ (by decide +kernel)) ggL_law_X4_cell
set_option maxRecDepth 20000 in
theorem ggL_law_X3_copy : GoodIn wsL_law wsX3_copy := goodIn_r _ [631, 25, 13, 593, 632, 619, 633, 103, 104, 105, 82, 83, 2, 84, 93, 94, 95, 96, 89, 90, 91, 15, 92, 34, 716, 717, 718, 719, 720, 752, 753, 754, 755] (by decide +kernel) (by decide +kernel)
set_option maxRecDepth 20000 in
theorem gL_law_X3_copy : GoodIn wsL_law (wsV RL 118 RX3 yX3_copy wsX3_copy) := goodIn_app (goodIn_of _ (by decide +kernel)) ggL_law_X3_copy
set_option maxRecDepth 20000 in
theorem ggL_law_X4_copy : GoodIn wsL_law wsX4_copy := goodIn_r _ [637, 73, 74, 76, 75, 184, 185, 5, 186, 187, 188, 189, 190, 191, 192, 193, 194, 195, 196, 197, 198, 199, 200, 201, 202, 721, 722, 723, 724, 725, 726, 727, 728, 729, 730, 731, 732, 733, 734, 735, 736, 737, 738, 739, 740, 741, 742, 743, 744, 745, 746, 747, 748, 749, 750, 751] (by decide +kernel) (by decide +kernel)
set_option maxRecDepth 20000 in
theorem gL_law_X4_copy : GoodIn wsL_law (wsV RL 122 RX4 yX4_copy wsX4_copy) := goodIn_app (goodIn_of _ (by decide +kernel)) ggL_law_X4_copy
set_option maxRecDepth 20000 in
theorem ggL_law_X3_tell : GoodIn wsL_law wsX3_tell := goodIn_r _ [641, 23, 240, 241, 82, 83, 2, 84, 642, 643, 644, 645, 646, 647, 648, 649, 24, 650, 651, 652, 653, 654, 655, 656, 657, 243, 716, 717, 718, 719, 720, 765, 766, 767, 768, 769, 770, 771, 772, 773, 774, 775, 776, 777, 778, 779, 780, 781] (by decide +kernel) (by decide +kernel)
set_option maxRecDepth 20000 in
theorem gL_law_X3_tell : GoodIn wsL_law (wsV RL 123 RX3 yX3_tell wsX3_tell) := goodIn_app (goodIn_of _ (by decide +kernel)) ggL_law_X3_tell
set_option maxRecDepth 20000 in
theorem ggL_law_X4_tell : GoodIn wsL_law wsX4_tell := goodIn_r _ [661, 61, 63, 258, 259, 260, 5, 261, 181, 188, 189, 190, 662, 663, 664, 665, 666, 721, 722, 723, 724, 725, 726, 727, 728, 729, 730, 731, 732, 733, 734, 735, 736, 737, 738, 739, 740, 741, 742, 743, 744, 745, 746, 747, 748, 749, 750, 751] (by decide +kernel) (by decide +kernel)
set_option maxRecDepth 20000 in
theorem gL_law_X4_tell : GoodIn wsL_law (wsV RL 126 RX4 yX4_tell wsX4_tell) := goodIn_app (goodIn_of _ (by decide +kernel)) ggL_law_X4_tell
set_option maxRecDepth 20000 in
theorem ggL_law_X3_tend : GoodIn wsL_law wsX3_tend := goodIn_r _ [670, 23, 240, 241, 82, 83, 2, 84, 671, 672, 673, 674, 646, 647, 648, 649, 24, 675, 676, 677, 678, 716, 717, 718, 719, 720, 765, 766, 767, 768, 769, 770, 771, 772, 773, 774, 775, 776, 777, 778, 779, 780, 781] (by decide +kernel) (by decide +kernel)
set_option maxRecDepth 20000 in
theorem gL_law_X3_tend : GoodIn wsL_law (wsV RL 127 RX3 yX3_tend wsX3_tend) := goodIn_app (goodIn_of _ (by decide +kernel)) ggL_law_X3_tend
set_option maxRecDepth 20000 in
theorem ggL_law_X4_tend : GoodIn wsL_law wsX4_tend := goodIn_r _ [682, 61, 258, 259, 260, 5, 261, 181, 188, 189, 190, 662, 663, 664, 665, 666, 721, 722, 723, 724, 725, 726, 727, 728, 729, 730, 731, 732, 733, 734, 735, 736, 737, 738, 739, 740, 741, 742, 743, 744, 745, 746, 747, 748, 749, 750, 751] (by decide +kernel) (by decide +kernel)
set_option maxRecDepth 20000 in
theorem gL_law_X4_tend : GoodIn wsL_law (wsV RL 130 RX4 yX4_tend wsX4_tend) := goodIn_app (goodIn_of _ (by decide +kernel)) ggL_law_X4_tend
set_option maxRecDepth 20000 in
theorem ggL_law_X3_as : GoodIn wsL_law wsX3_as := goodIn_r _ [686, 25, 23, 240, 241, 82, 83, 2, 84, 93, 94, 95, 96, 716, 717, 718, 719, 720, 765, 766, 767, 768, 769, 770, 771, 772, 773, 774, 775, 776, 777, 778, 779, 780, 781] (by decide +kernel) (by decide +kernel)
set_option maxRecDepth 20000 in
theorem gL_law_X3_as : GoodIn wsL_law (wsV RL 131 RX3 yX3_as wsX3_as) := goodIn_app (goodIn_of _ (by decide +kernel)) ggL_law_X3_as
set_option maxRecDepth 20000 in
theorem ggL_law_X4_as : GoodIn wsL_law wsX4_as := goodIn_r _ [690, 172, 61, 258, 259, 260, 5, 261, 181, 188, 189, 190, 191, 192, 193, 194, 195, 196, 197, 198, 199, 721, 722, 723, 724, 725, 726, 727, 728, 729, 730, 731, 732, 733, 734, 735, 736, 737, 738, 739, 740, 741, 742, 743, 744, 745, 746, 747, 748, 749, 750, 751] (by decide +kernel) (by decide +kernel)
set_option maxRecDepth 20000 in
theorem gL_law_X4_as : GoodIn wsL_law (wsV RL 134 RX4 yX4_as wsX4_as) := goodIn_app (goodIn_of _ (by decide +kernel)) ggL_law_X4_as
set_option maxRecDepth 20000 in
theorem ggL_law_X3_trace : GoodIn wsL_law wsX3_trace := goodIn_r _ [694, 24, 716, 717, 718, 719, 720] (by decide +kernel) (by decide +kernel)
set_option maxRecDepth 20000 in
theorem gL_law_X3_trace : GoodIn wsL_law (wsV RL 135 RX3 yX3_trace wsX3_trace) := goodIn_app (goodIn_of _ (by decide +kernel)) ggL_law_X3_trace
set_option maxRecDepth 20000 in
theorem ggL_law_X4_trace : GoodIn wsL_law wsX4_trace := goodIn_r _ [698, 666, 721, 722, 723, 724, 725, 726, 727, 728, 729, 730, 731, 732, 733, 734, 735, 736, 737, 738, 739, 740, 741, 742, 743, 744, 745, 746, 747, 748, 749, 750, 751] (by decide +kernel) (by decide +kernel)
set_option maxRecDepth 20000 in
theorem gL_law_X4_trace : GoodIn wsL_law (wsV RL 138 RX4 yX4_trace wsX4_trace) := goodIn_app (goodIn_of _ (by decide +kernel)) ggL_law_X4_trace
set_option maxRecDepth 20000 in
theorem ggL_law_X3_fault : GoodIn wsL_law wsX3_fault := goodIn_r _ [702, 25, 716, 717, 718, 719, 720] (by decide +kernel) (by decide +kernel)
set_option maxRecDepth 20000 in
theorem gL_law_X3_fault : GoodIn wsL_law (wsV RL 139 RX3 yX3_fault wsX3_fault) := goodIn_app (goodIn_of _ (by decide +kernel)) ggL_law_X3_fault
set_option maxRecDepth 20000 in
theorem ggL_law_X4_fault : GoodIn wsL_law wsX4_fault := goodIn_r _ [706, 195, 721, 722, 723, 724, 725, 726, 727, 728, 729, 730, 731, 732, 733, 734, 735, 736, 737, 738, 739, 740, 741, 742, 743, 744, 745, 746, 747, 748, 749, 750, 751] (by decide +kernel) (by decide +kernel)
set_option maxRecDepth 20000 in
theorem gL_law_X4_fault : GoodIn wsL_law (wsV RL 142 RX4 yX4_fault wsX4_fault) := goodIn_app (goodIn_of _ (by decide +kernel)) ggL_law_X4_fault
set_option maxRecDepth 20000 in
theorem ggL_law_X3_many : GoodIn wsL_law wsX3_many := goodIn_r _ [710, 23, 81, 711, 270, 240, 244, 716, 717, 718, 719, 720, 765, 766, 767, 768, 769, 770, 771, 772, 773, 774, 775, 776, 777, 778, 779, 780, 781] (by decide +kernel) (by decide +kernel)
set_option maxRecDepth 20000 in
theorem gL_law_X3_many : GoodIn wsL_law (wsV RL 143 RX3 yX3_many wsX3_many) := goodIn_app (goodIn_of _ (by decide +kernel)) ggL_law_X3_many
set_option maxRecDepth 20000 in
theorem ggL_law_X4_many : GoodIn wsL_law wsX4_many := goodIn_r _ [715, 177, 179, 181, 182, 219, 220, 221, 5, 222, 175, 721, 722, 723, 724, 725, 726, 727, 728, 729, 730, 731, 732, 733, 734, 735, 736, 737, 738, 739, 740, 741, 742, 743, 744, 745, 746, 747, 748, 749, 750, 751] (by decide +kernel) (by decide +kernel)
set_option maxRecDepth 20000 in
theorem gL_law_X4_many : GoodIn wsL_law (wsV RL 146 RX4 yX4_many wsX4_many) := goodIn_app (goodIn_of _ (by decide +kernel)) ggL_law_X4_many

