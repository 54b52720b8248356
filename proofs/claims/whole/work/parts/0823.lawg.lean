set_option maxRecDepth 20000 in
theorem ggL_law_X4_rest : GoodIn wsL_law wsX4_rest := goodIn_r _ [637, 414, 22, 21, 431, 609, 432, 433, 434, 2, 435, 211, 347, 348, 349, 20, 350, 45, 46, 47, 48, 49, 50, 51, 52, 351, 166, 167, 168, 53, 54, 55, 56, 440, 441, 442, 443, 444, 445, 446, 447, 448, 449, 450, 451, 452, 453, 454, 455, 456, 457, 458, 459, 460, 461, 462, 463, 464, 465, 466, 467, 468, 884, 885, 886, 887, 888, 889, 890, 891, 892, 893, 921, 922, 923, 924, 925, 926, 927, 928, 929, 930, 931, 932] (by decide +kernel) (by decide +kernel)
set_option maxRecDepth 20000 in
theorem gL_law_X4_rest : GoodIn wsL_law (wsV RL 94 RX4 yX4_rest wsX4_rest) := goodIn_app (goodIn_of _ (by decide +kernel)) ggL_law_X4_rest
set_option maxRecDepth 20000 in
theorem ggL_law_X5_rest : GoodIn wsL_law wsX5_rest := goodIn_r _ [641, 425, 88, 575, 473, 474, 475, 5, 476, 79, 622, 623, 624, 625, 81, 589, 590, 591, 592, 399, 400, 401, 481, 482, 483, 484, 485, 486, 487, 488, 489, 490, 491, 492, 493, 494, 495, 894, 895, 896, 897, 898, 899, 900, 901, 902, 903, 904, 905, 906, 907, 908, 909, 910, 911, 912, 913, 914, 915, 916] (by decide +kernel) (by decide +kernel)
set_option maxRecDepth 20000 in
theorem gL_law_X5_rest : GoodIn wsL_law (wsV RL 97 RX5 yX5_rest wsX5_rest) := goodIn_app (goodIn_of _ (by decide +kernel)) ggL_law_X5_rest
set_option maxRecDepth 20000 in
theorem ggL_law_X4_least : GoodIn wsL_law wsX4_least := goodIn_r _ [645, 93, 22, 21, 431, 569, 609, 500, 501, 502, 2, 503, 211, 504, 505, 506, 97, 98, 99, 347, 348, 349, 20, 350, 45, 46, 47, 48, 49, 50, 51, 52, 351, 166, 167, 168, 53, 54, 55, 56, 507, 344, 345, 346, 580, 581, 582, 583, 584, 441, 442, 443, 444, 445, 446, 447, 448, 449, 450, 451, 452, 453, 454, 455, 456, 457, 458, 459, 460, 461, 462, 463, 464, 465, 466, 467, 468, 884, 885, 886, 887, 888, 889, 890, 891, 892, 893, 921, 922, 923, 924, 925, 926, 927, 928, 929, 930, 931, 932] (by decide +kernel) (by decide +kernel)
set_option maxRecDepth 20000 in
theorem gL_law_X4_least : GoodIn wsL_law (wsV RL 98 RX4 yX4_least wsX4_least) := goodIn_app (goodIn_of _ (by decide +kernel)) ggL_law_X4_least
set_option maxRecDepth 20000 in
theorem ggL_law_X5_least : GoodIn wsL_law wsX5_least := goodIn_r _ [649, 121, 81, 79, 575, 513, 514, 515, 5, 516, 125, 126, 127, 589, 590, 591, 592, 399, 400, 401, 593, 594, 595, 596, 481, 482, 483, 484, 485, 486, 487, 488, 489, 490, 491, 492, 493, 494, 495, 894, 895, 896, 897, 898, 899, 900, 901, 902, 903, 904, 905, 906, 907, 908, 909, 910, 911, 912, 913, 914, 915, 916] (by decide +kernel) (by decide +kernel)
set_option maxRecDepth 20000 in
theorem gL_law_X5_least : GoodIn wsL_law (wsV RL 101 RX5 yX5_least wsX5_least) := goodIn_app (goodIn_of _ (by decide +kernel)) ggL_law_X5_least
set_option maxRecDepth 20000 in
theorem ggL_law_X4_buyOff : GoodIn wsL_law wsX4_buyOff := goodIn_r _ [653, 414, 93, 21, 609, 432, 433, 434, 2, 435, 211, 504, 505, 506, 97, 98, 99, 547, 548, 549, 522, 523, 524, 20, 525, 49, 56, 526, 527, 459, 528, 529, 530, 531, 654, 655, 656, 657, 22, 521, 431, 347, 348, 349, 350, 45, 46, 47, 48, 50, 51, 52, 351, 166, 167, 168, 53, 54, 55, 580, 581, 582, 583, 584, 441, 442, 443, 444, 445, 446, 447, 448, 449, 450, 451, 452, 453, 454, 455, 456, 457, 458, 460, 461, 462, 463, 464, 465, 466, 467, 468, 884, 885, 886, 887, 888, 889, 890, 891, 892, 893, 921, 922, 923, 924, 925, 926, 927, 928, 929, 930, 931, 932] (by decide +kernel) (by decide +kernel)
set_option maxRecDepth 20000 in
theorem gL_law_X4_buyOff : GoodIn wsL_law (wsV RL 102 RX4 yX4_buyOff wsX4_buyOff) := goodIn_app (goodIn_of _ (by decide +kernel)) ggL_law_X4_buyOff
set_option maxRecDepth 20000 in
theorem ggL_law_X5_buyOff : GoodIn wsL_law wsX5_buyOff := goodIn_r _ [661, 425, 121, 79, 575, 473, 474, 475, 5, 476, 125, 126, 127, 536, 537, 538, 662, 663, 664, 665, 81, 589, 590, 591, 592, 399, 400, 401, 487, 488, 489, 593, 594, 595, 596, 481, 482, 483, 484, 485, 486, 490, 491, 492, 493, 494, 495, 539, 540, 541, 894, 895, 896, 897, 898, 899, 900, 901, 902, 903, 904, 905, 906, 907, 908, 909, 910, 911, 912, 913, 914, 915, 916] (by decide +kernel) (by decide +kernel)
set_option maxRecDepth 20000 in
theorem gL_law_X5_buyOff : GoodIn wsL_law (wsV RL 105 RX5 yX5_buyOff wsX5_buyOff) := goodIn_app (goodIn_of _ (by decide +kernel)) ggL_law_X5_buyOff
set_option maxRecDepth 20000 in
theorem ggL_law_X4_holds : GoodIn wsL_law wsX4_holds := goodIn_r _ [669, 414, 93, 21, 211, 432, 433, 434, 2, 435, 97, 98, 99, 522, 523, 524, 20, 525, 49, 56, 654, 655, 656, 657, 22, 521, 431, 347, 348, 349, 350, 45, 46, 47, 48, 50, 51, 52, 351, 166, 167, 168, 53, 54, 55, 580, 581, 582, 583, 584, 441, 442, 443, 444, 445, 446, 447, 448, 449, 450, 451, 452, 453, 454, 455, 456, 457, 458, 459, 460, 461, 462, 463, 464, 465, 466, 467, 468, 884, 885, 886, 887, 888, 889, 890, 891, 892, 893, 921, 922, 923, 924, 925, 926, 927, 928, 929, 930, 931, 932] (by decide +kernel) (by decide +kernel)
set_option maxRecDepth 20000 in
theorem gL_law_X4_holds : GoodIn wsL_law (wsV RL 106 RX4 yX4_holds wsX4_holds) := goodIn_app (goodIn_of _ (by decide +kernel)) ggL_law_X4_holds
set_option maxRecDepth 20000 in
theorem ggL_law_X5_holds : GoodIn wsL_law wsX5_holds := goodIn_r _ [673, 425, 121, 79, 473, 474, 475, 5, 476, 125, 126, 127, 589, 590, 591, 592, 81, 399, 400, 401, 593, 594, 595, 596, 481, 482, 483, 484, 485, 486, 487, 488, 489, 490, 491, 492, 493, 494, 495, 662, 663, 664, 665, 894, 895, 896, 897, 898, 899, 900, 901, 902, 903, 904, 905, 906, 907, 908, 909, 910, 911, 912, 913, 914, 915, 916] (by decide +kernel) (by decide +kernel)
set_option maxRecDepth 20000 in
theorem gL_law_X5_holds : GoodIn wsL_law (wsV RL 109 RX5 yX5_holds wsX5_holds) := goodIn_app (goodIn_of _ (by decide +kernel)) ggL_law_X5_holds
set_option maxRecDepth 20000 in
theorem ggL_law_X4_broke : GoodIn wsL_law wsX4_broke := goodIn_r _ [677, 414, 93, 22, 21, 13, 211, 521, 432, 433, 434, 2, 435, 94, 95, 96, 97, 98, 99, 142, 143, 144, 145, 146, 147, 148, 149, 34, 150, 69, 100, 101, 102, 103, 32, 104, 347, 348, 349, 20, 350, 45, 46, 47, 48, 49, 50, 51, 52, 351, 166, 167, 168, 53, 54, 55, 56, 678, 679, 680, 681, 682, 584, 441, 442, 443, 444, 445, 446, 447, 448, 449, 450, 451, 452, 453, 454, 455, 456, 457, 458, 459, 460, 461, 462, 463, 464, 465, 466, 467, 468, 113, 114, 115, 116, 884, 885, 886, 887, 888, 889, 890, 891, 892, 893, 921, 922, 923, 924, 925, 926, 927, 928, 929, 930, 931, 932, 936, 937, 938, 939] (by decide +kernel) (by decide +kernel)
set_option maxRecDepth 20000 in
theorem gL_law_X4_broke : GoodIn wsL_law (wsV RL 110 RX4 yX4_broke wsX4_broke) := goodIn_app (goodIn_of _ (by decide +kernel)) ggL_law_X4_broke
set_option maxRecDepth 20000 in
theorem ggL_law_X5_broke : GoodIn wsL_law wsX5_broke := goodIn_r _ [686, 425, 121, 79, 473, 474, 475, 5, 476, 122, 123, 124, 125, 126, 127, 687, 688, 689, 690, 75, 76, 87, 77, 128, 129, 130, 131, 132, 133, 173, 174, 175, 589, 590, 591, 592, 81, 399, 400, 401, 691, 692, 693, 694, 481, 482, 483, 484, 485, 486, 487, 488, 489, 490, 491, 492, 493, 494, 495, 662, 663, 664, 665, 134, 135, 136, 137, 894, 895, 896, 897, 898, 899, 900, 901, 902, 903, 904, 905, 906, 907, 908, 909, 910, 911, 912, 913, 914, 915, 916] (by decide +kernel) (by decide +kernel)
set_option maxRecDepth 20000 in
theorem gL_law_X5_broke : GoodIn wsL_law (wsV RL 113 RX5 yX5_broke wsX5_broke) := goodIn_app (goodIn_of _ (by decide +kernel)) ggL_law_X5_broke
set_option maxRecDepth 20000 in
theorem ggL_law_X4_sworn : GoodIn wsL_law wsX4_sworn := goodIn_r _ [698, 93, 21, 521, 414, 22, 558, 13, 500, 501, 502, 2, 503, 211, 94, 95, 96, 97, 98, 99, 142, 143, 144, 145, 146, 147, 148, 149, 34, 150, 69, 100, 101, 102, 103, 32, 104, 347, 348, 349, 20, 350, 45, 46, 47, 48, 49, 50, 51, 52, 351, 166, 167, 168, 53, 54, 55, 56, 678, 679, 680, 681, 682, 584, 441, 442, 443, 444, 445, 446, 447, 448, 449, 450, 451, 452, 453, 454, 455, 456, 457, 458, 459, 460, 461, 462, 463, 464, 465, 466, 467, 468, 113, 114, 115, 116, 884, 885, 886, 887, 888, 889, 890, 891, 892, 893, 921, 922, 923, 924, 925, 926, 927, 928, 929, 930, 931, 932, 936, 937, 938, 939] (by decide +kernel) (by decide +kernel)
set_option maxRecDepth 20000 in
theorem gL_law_X4_sworn : GoodIn wsL_law (wsV RL 114 RX4 yX4_sworn wsX4_sworn) := goodIn_app (goodIn_of _ (by decide +kernel)) ggL_law_X4_sworn
set_option maxRecDepth 20000 in
theorem ggL_law_X5_sworn : GoodIn wsL_law wsX5_sworn := goodIn_r _ [702, 121, 79, 425, 81, 513, 514, 515, 5, 516, 125, 126, 127, 122, 123, 124, 687, 688, 689, 690, 75, 76, 87, 77, 128, 129, 130, 131, 132, 133, 173, 174, 175, 589, 590, 591, 592, 399, 400, 401, 691, 692, 693, 694, 481, 482, 483, 484, 485, 486, 487, 488, 489, 490, 491, 492, 493, 494, 495, 134, 135, 136, 137, 894, 895, 896, 897, 898, 899, 900, 901, 902, 903, 904, 905, 906, 907, 908, 909, 910, 911, 912, 913, 914, 915, 916] (by decide +kernel) (by decide +kernel)
set_option maxRecDepth 20000 in
theorem gL_law_X5_sworn : GoodIn wsL_law (wsV RL 118 RX5 yX5_sworn wsX5_sworn) := goodIn_app (goodIn_of _ (by decide +kernel)) ggL_law_X5_sworn
set_option maxRecDepth 20000 in
theorem ggL_law_X4_who : GoodIn wsL_law wsX4_who := goodIn_r _ [706, 93, 22, 21, 707, 13, 500, 501, 502, 2, 503, 211, 94, 95, 96, 97, 98, 99, 142, 143, 144, 145, 146, 147, 148, 149, 34, 150, 69, 100, 101, 102, 103, 32, 104, 347, 348, 349, 20, 350, 45, 46, 47, 48, 49, 50, 51, 52, 351, 166, 167, 168, 53, 54, 55, 56, 678, 679, 680, 681, 682, 584, 441, 442, 443, 444, 445, 446, 447, 448, 449, 450, 451, 452, 453, 454, 455, 456, 457, 458, 459, 460, 461, 462, 463, 464, 465, 466, 467, 468, 113, 114, 115, 116, 884, 885, 886, 887, 888, 889, 890, 891, 892, 893, 921, 922, 923, 924, 925, 926, 927, 928, 929, 930, 931, 932, 936, 937, 938, 939] (by decide +kernel) (by decide +kernel)
set_option maxRecDepth 20000 in
theorem gL_law_X4_who : GoodIn wsL_law (wsV RL 119 RX4 yX4_who wsX4_who) := goodIn_app (goodIn_of _ (by decide +kernel)) ggL_law_X4_who
set_option maxRecDepth 20000 in
theorem ggL_law_X5_who : GoodIn wsL_law wsX5_who := goodIn_r _ [711, 121, 81, 513, 514, 515, 5, 516, 79, 125, 126, 127, 122, 123, 124, 687, 688, 689, 690, 75, 76, 87, 77, 128, 129, 130, 131, 132, 133, 173, 174, 175, 589, 590, 591, 592, 399, 400, 401, 691, 692, 693, 694, 481, 482, 483, 484, 485, 486, 487, 488, 489, 490, 491, 492, 493, 494, 495, 134, 135, 136, 137, 894, 895, 896, 897, 898, 899, 900, 901, 902, 903, 904, 905, 906, 907, 908, 909, 910, 911, 912, 913, 914, 915, 916] (by decide +kernel) (by decide +kernel)
set_option maxRecDepth 20000 in
theorem gL_law_X5_who : GoodIn wsL_law (wsV RL 122 RX5 yX5_who wsX5_who) := goodIn_app (goodIn_of _ (by decide +kernel)) ggL_law_X5_who
set_option maxRecDepth 20000 in
theorem ggL_law_X4_late : GoodIn wsL_law wsX4_late := goodIn_r _ [715, 414, 93, 609, 21, 211, 430, 560, 521, 432, 433, 434, 2, 435, 547, 548, 549, 884, 885, 886, 887, 888, 889, 890, 891, 892, 893, 921, 922, 923, 924, 925, 926, 927, 928, 929, 930, 931, 932] (by decide +kernel) (by decide +kernel)
set_option maxRecDepth 20000 in
theorem gL_law_X4_late : GoodIn wsL_law (wsV RL 123 RX4 yX4_late wsX4_late) := goodIn_app (goodIn_of _ (by decide +kernel)) ggL_law_X4_late
set_option maxRecDepth 20000 in
theorem ggL_law_X5_late : GoodIn wsL_law wsX5_late := goodIn_r _ [719, 425, 121, 575, 79, 473, 474, 475, 5, 476, 125, 126, 127, 894, 895, 896, 897, 898, 899, 900, 901, 902, 903, 904, 905, 906, 907, 908, 909, 910, 911, 912, 913, 914, 915, 916] (by decide +kernel) (by decide +kernel)
set_option maxRecDepth 20000 in
theorem gL_law_X5_late : GoodIn wsL_law (wsV RL 126 RX5 yX5_late wsX5_late) := goodIn_app (goodIn_of _ (by decide +kernel)) ggL_law_X5_late
set_option maxRecDepth 20000 in
theorem ggL_law_X4_lies : GoodIn wsL_law wsX4_lies := goodIn_r _ [723, 724, 725, 21, 432, 433, 434, 2, 435, 211, 504, 505, 506, 97, 98, 99, 547, 548, 549, 522, 523, 524, 20, 525, 49, 56, 526, 527, 459, 528, 529, 530, 531, 726, 445, 446, 447, 45, 53, 448, 449, 450, 451, 452, 453, 454, 455, 456, 48, 47, 55, 52, 54, 457, 458, 460, 727, 728, 729, 730, 731, 732, 884, 885, 886, 887, 888, 889, 890, 891, 892, 893, 921, 922, 923, 924, 925, 926, 927, 928, 929, 930, 931, 932] (by decide +kernel) (by decide +kernel)
set_option maxRecDepth 20000 in
theorem gL_law_X4_lies : GoodIn wsL_law (wsV RL 127 RX4 yX4_lies wsX4_lies) := goodIn_app (goodIn_of _ (by decide +kernel)) ggL_law_X4_lies
set_option maxRecDepth 20000 in
theorem ggL_law_X5_lies : GoodIn wsL_law wsX5_lies := goodIn_r _ [736, 737, 738, 79, 739, 473, 474, 475, 5, 476, 125, 126, 127, 536, 537, 538, 539, 540, 541, 487, 488, 489, 484, 485, 486, 490, 491, 492, 493, 494, 495, 894, 895, 896, 897, 898, 899, 900, 901, 902, 903, 904, 905, 906, 907, 908, 909, 910, 911, 912, 913, 914, 915, 916] (by decide +kernel) (by decide +kernel)
set_option maxRecDepth 20000 in
theorem gL_law_X5_lies : GoodIn wsL_law (wsV RL 131 RX5 yX5_lies wsX5_lies) := goodIn_app (goodIn_of _ (by decide +kernel)) ggL_law_X5_lies
set_option maxRecDepth 20000 in
theorem ggL_law_X4_order : GoodIn wsL_law wsX4_order := goodIn_r _ [743, 414, 93, 22, 21, 609, 432, 433, 434, 2, 435, 211, 347, 348, 349, 20, 350, 45, 46, 47, 48, 49, 50, 51, 52, 351, 166, 167, 168, 53, 54, 55, 56, 440, 441, 442, 443, 444, 445, 446, 447, 448, 449, 450, 451, 452, 453, 454, 455, 456, 457, 458, 459, 460, 461, 462, 463, 464, 465, 466, 467, 468, 526, 527, 528, 529, 530, 531, 744, 745, 746, 884, 885, 886, 887, 888, 889, 890, 891, 892, 893, 921, 922, 923, 924, 925, 926, 927, 928, 929, 930, 931, 932] (by decide +kernel) (by decide +kernel)
set_option maxRecDepth 20000 in
theorem gL_law_X4_order : GoodIn wsL_law (wsV RL 132 RX4 yX4_order wsX4_order) := goodIn_app (goodIn_of _ (by decide +kernel)) ggL_law_X4_order
set_option maxRecDepth 20000 in
theorem ggL_law_X5_order : GoodIn wsL_law wsX5_order := goodIn_r _ [750, 425, 121, 81, 79, 575, 473, 474, 475, 5, 476, 589, 590, 591, 592, 399, 400, 401, 481, 482, 483, 484, 485, 486, 487, 488, 489, 490, 491, 492, 493, 494, 495, 894, 895, 896, 897, 898, 899, 900, 901, 902, 903, 904, 905, 906, 907, 908, 909, 910, 911, 912, 913, 914, 915, 916] (by decide +kernel) (by decide +kernel)
set_option maxRecDepth 20000 in
theorem gL_law_X5_order : GoodIn wsL_law (wsV RL 135 RX5 yX5_order wsX5_order) := goodIn_app (goodIn_of _ (by decide +kernel)) ggL_law_X5_order
