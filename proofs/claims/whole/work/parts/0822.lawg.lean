set_option maxRecDepth 20000 in
theorem ggL_law_X4_swear : GoodIn wsL_law wsX4_swear := goodIn_r _ [499, 93, 26, 21, 500, 501, 502, 2, 503, 211, 504, 505, 506, 97, 98, 99, 436, 437, 438, 25, 439, 62, 63, 61, 60, 19, 20, 42, 43, 44, 10, 11, 45, 46, 47, 48, 49, 50, 51, 28, 52, 53, 54, 55, 56, 420, 348, 349, 350, 351, 166, 167, 168, 507, 344, 345, 346, 508, 454, 455, 456, 884, 885, 886, 887, 888, 889, 890, 891, 892, 893, 921, 922, 923, 924, 925, 926, 927, 928, 929, 930, 931, 932, 933, 934, 935] (by decide +kernel) (by decide +kernel)
set_option maxRecDepth 20000 in
theorem gL_law_X4_swear : GoodIn wsL_law (wsV RL 53 RX4 yX4_swear wsX4_swear) := goodIn_app (goodIn_of _ (by decide +kernel)) ggL_law_X4_swear
set_option maxRecDepth 20000 in
theorem ggL_law_X5_swear : GoodIn wsL_law wsX5_swear := goodIn_r _ [512, 121, 79, 513, 514, 515, 5, 516, 125, 126, 127, 477, 478, 479, 480, 364, 85, 399, 400, 401, 490, 491, 492, 487, 488, 489, 894, 895, 896, 897, 898, 899, 900, 901, 902, 903, 904, 905, 906, 907, 908, 909, 910, 911, 912, 913, 914, 915, 916] (by decide +kernel) (by decide +kernel)
set_option maxRecDepth 20000 in
theorem gL_law_X5_swear : GoodIn wsL_law (wsV RL 56 RX5 yX5_swear wsX5_swear) := goodIn_app (goodIn_of _ (by decide +kernel)) ggL_law_X5_swear
set_option maxRecDepth 20000 in
theorem ggL_law_X4_buy : GoodIn wsL_law wsX4_buy := goodIn_r _ [520, 93, 21, 521, 414, 26, 500, 501, 502, 2, 503, 211, 436, 437, 438, 25, 439, 62, 63, 61, 60, 19, 20, 42, 43, 44, 10, 11, 45, 46, 47, 48, 49, 50, 51, 28, 52, 53, 54, 55, 56, 420, 348, 349, 350, 351, 166, 167, 168, 522, 523, 524, 525, 526, 527, 459, 528, 529, 530, 531, 884, 885, 886, 887, 888, 889, 890, 891, 892, 893, 921, 922, 923, 924, 925, 926, 927, 928, 929, 930, 931, 932, 933, 934, 935] (by decide +kernel) (by decide +kernel)
set_option maxRecDepth 20000 in
theorem gL_law_X4_buy : GoodIn wsL_law (wsV RL 57 RX4 yX4_buy wsX4_buy) := goodIn_app (goodIn_of _ (by decide +kernel)) ggL_law_X4_buy
set_option maxRecDepth 20000 in
theorem ggL_law_X5_buy : GoodIn wsL_law wsX5_buy := goodIn_r _ [535, 121, 79, 425, 513, 514, 515, 5, 516, 125, 126, 127, 477, 478, 479, 480, 364, 85, 399, 400, 401, 536, 537, 538, 539, 540, 541, 894, 895, 896, 897, 898, 899, 900, 901, 902, 903, 904, 905, 906, 907, 908, 909, 910, 911, 912, 913, 914, 915, 916] (by decide +kernel) (by decide +kernel)
set_option maxRecDepth 20000 in
theorem gL_law_X5_buy : GoodIn wsL_law (wsV RL 60 RX5 yX5_buy wsX5_buy) := goodIn_app (goodIn_of _ (by decide +kernel)) ggL_law_X5_buy
set_option maxRecDepth 20000 in
theorem ggL_law_X4_snow : GoodIn wsL_law wsX4_snow := goodIn_r _ [545, 414, 93, 21, 546, 26, 432, 433, 434, 2, 435, 211, 504, 505, 506, 97, 98, 99, 547, 548, 549, 436, 437, 438, 25, 439, 62, 63, 61, 60, 19, 20, 42, 43, 44, 10, 11, 45, 46, 47, 48, 49, 50, 51, 28, 52, 53, 54, 55, 56, 420, 348, 349, 350, 351, 166, 167, 168, 884, 885, 886, 887, 888, 889, 890, 891, 892, 893, 921, 922, 923, 924, 925, 926, 927, 928, 929, 930, 931, 932, 933, 934, 935] (by decide +kernel) (by decide +kernel)
set_option maxRecDepth 20000 in
theorem gL_law_X4_snow : GoodIn wsL_law (wsV RL 61 RX4 yX4_snow wsX4_snow) := goodIn_app (goodIn_of _ (by decide +kernel)) ggL_law_X4_snow
set_option maxRecDepth 20000 in
theorem ggL_law_X5_snow : GoodIn wsL_law wsX5_snow := goodIn_r _ [553, 425, 121, 79, 473, 474, 475, 5, 476, 125, 126, 127, 477, 478, 479, 480, 364, 85, 399, 400, 401, 894, 895, 896, 897, 898, 899, 900, 901, 902, 903, 904, 905, 906, 907, 908, 909, 910, 911, 912, 913, 914, 915, 916] (by decide +kernel) (by decide +kernel)
set_option maxRecDepth 20000 in
theorem gL_law_X5_snow : GoodIn wsL_law (wsV RL 65 RX5 yX5_snow wsX5_snow) := goodIn_app (goodIn_of _ (by decide +kernel)) ggL_law_X5_snow
set_option maxRecDepth 20000 in
theorem ggL_law_X4_oath : GoodIn wsL_law wsX4_oath := goodIn_r _ [557, 93, 21, 558, 559, 560, 521, 500, 501, 502, 2, 503, 211, 508, 454, 455, 20, 456, 56, 48, 53, 47, 55, 52, 54, 884, 885, 886, 887, 888, 889, 890, 891, 892, 893, 921, 922, 923, 924, 925, 926, 927, 928, 929, 930, 931, 932] (by decide +kernel) (by decide +kernel)
set_option maxRecDepth 20000 in
theorem gL_law_X4_oath : GoodIn wsL_law (wsV RL 66 RX4 yX4_oath wsX4_oath) := goodIn_app (goodIn_of _ (by decide +kernel)) ggL_law_X4_oath
set_option maxRecDepth 20000 in
theorem ggL_law_X5_oath : GoodIn wsL_law wsX5_oath := goodIn_r _ [564, 121, 79, 513, 514, 515, 5, 516, 125, 126, 127, 490, 491, 492, 487, 488, 489, 894, 895, 896, 897, 898, 899, 900, 901, 902, 903, 904, 905, 906, 907, 908, 909, 910, 911, 912, 913, 914, 915, 916] (by decide +kernel) (by decide +kernel)
set_option maxRecDepth 20000 in
theorem gL_law_X5_oath : GoodIn wsL_law (wsV RL 69 RX5 yX5_oath wsX5_oath) := goodIn_app (goodIn_of _ (by decide +kernel)) ggL_law_X5_oath
set_option maxRecDepth 20000 in
theorem ggL_law_X4_coach : GoodIn wsL_law wsX4_coach := goodIn_r _ [568, 414, 21, 431, 546, 569, 93, 432, 433, 434, 2, 435, 211, 570, 449, 450, 20, 451, 452, 49, 453, 454, 455, 456, 56, 48, 53, 47, 55, 52, 54, 522, 523, 524, 525, 884, 885, 886, 887, 888, 889, 890, 891, 892, 893, 921, 922, 923, 924, 925, 926, 927, 928, 929, 930, 931, 932] (by decide +kernel) (by decide +kernel)
set_option maxRecDepth 20000 in
theorem gL_law_X4_coach : GoodIn wsL_law (wsV RL 70 RX4 yX4_coach wsX4_coach) := goodIn_app (goodIn_of _ (by decide +kernel)) ggL_law_X4_coach
set_option maxRecDepth 20000 in
theorem ggL_law_X5_coach : GoodIn wsL_law wsX5_coach := goodIn_r _ [574, 425, 79, 575, 121, 473, 474, 475, 5, 476, 484, 485, 486, 487, 488, 489, 490, 491, 492, 536, 537, 538, 894, 895, 896, 897, 898, 899, 900, 901, 902, 903, 904, 905, 906, 907, 908, 909, 910, 911, 912, 913, 914, 915, 916] (by decide +kernel) (by decide +kernel)
set_option maxRecDepth 20000 in
theorem gL_law_X5_coach : GoodIn wsL_law (wsV RL 73 RX5 yX5_coach wsX5_coach) := goodIn_app (goodIn_of _ (by decide +kernel)) ggL_law_X5_coach
set_option maxRecDepth 20000 in
theorem ggL_law_X4_ahead : GoodIn wsL_law wsX4_ahead := goodIn_r _ [579, 414, 93, 22, 21, 431, 432, 433, 434, 2, 435, 211, 97, 98, 99, 347, 348, 349, 20, 350, 45, 46, 47, 48, 49, 50, 51, 52, 351, 166, 167, 168, 53, 54, 55, 56, 580, 581, 582, 583, 584, 441, 442, 443, 444, 445, 446, 447, 448, 449, 450, 451, 452, 453, 454, 455, 456, 457, 458, 459, 460, 461, 462, 463, 464, 465, 466, 467, 468, 884, 885, 886, 887, 888, 889, 890, 891, 892, 893, 921, 922, 923, 924, 925, 926, 927, 928, 929, 930, 931, 932] (by decide +kernel) (by decide +kernel)
set_option maxRecDepth 20000 in
theorem gL_law_X4_ahead : GoodIn wsL_law (wsV RL 74 RX4 yX4_ahead wsX4_ahead) := goodIn_app (goodIn_of _ (by decide +kernel)) ggL_law_X4_ahead
set_option maxRecDepth 20000 in
theorem ggL_law_X5_ahead : GoodIn wsL_law wsX5_ahead := goodIn_r _ [588, 425, 121, 473, 474, 475, 5, 476, 79, 125, 126, 127, 589, 590, 591, 592, 81, 399, 400, 401, 593, 594, 595, 596, 481, 482, 483, 484, 485, 486, 487, 488, 489, 490, 491, 492, 493, 494, 495, 894, 895, 896, 897, 898, 899, 900, 901, 902, 903, 904, 905, 906, 907, 908, 909, 910, 911, 912, 913, 914, 915, 916] (by decide +kernel) (by decide +kernel)
set_option maxRecDepth 20000 in
theorem gL_law_X5_ahead : GoodIn wsL_law (wsV RL 77 RX5 yX5_ahead wsX5_ahead) := goodIn_app (goodIn_of _ (by decide +kernel)) ggL_law_X5_ahead
set_option maxRecDepth 20000 in
theorem ggL_law_X4_comesTo : GoodIn wsL_law wsX4_comesTo := goodIn_r _ [600, 93, 22, 21, 521, 500, 501, 502, 2, 503, 211, 97, 98, 99, 347, 348, 349, 20, 350, 45, 46, 47, 48, 49, 50, 51, 52, 351, 166, 167, 168, 53, 54, 55, 56, 580, 581, 582, 583, 584, 441, 442, 443, 444, 445, 446, 447, 448, 449, 450, 451, 452, 453, 454, 455, 456, 457, 458, 459, 460, 461, 462, 463, 464, 465, 466, 467, 468, 884, 885, 886, 887, 888, 889, 890, 891, 892, 893, 921, 922, 923, 924, 925, 926, 927, 928, 929, 930, 931, 932] (by decide +kernel) (by decide +kernel)
set_option maxRecDepth 20000 in
theorem gL_law_X4_comesTo : GoodIn wsL_law (wsV RL 78 RX4 yX4_comesTo wsX4_comesTo) := goodIn_app (goodIn_of _ (by decide +kernel)) ggL_law_X4_comesTo
set_option maxRecDepth 20000 in
theorem ggL_law_X5_comesTo : GoodIn wsL_law wsX5_comesTo := goodIn_r _ [604, 121, 81, 513, 514, 515, 5, 516, 79, 125, 126, 127, 589, 590, 591, 592, 399, 400, 401, 593, 594, 595, 596, 481, 482, 483, 484, 485, 486, 487, 488, 489, 490, 491, 492, 493, 494, 495, 894, 895, 896, 897, 898, 899, 900, 901, 902, 903, 904, 905, 906, 907, 908, 909, 910, 911, 912, 913, 914, 915, 916] (by decide +kernel) (by decide +kernel)
set_option maxRecDepth 20000 in
theorem gL_law_X5_comesTo : GoodIn wsL_law (wsV RL 81 RX5 yX5_comesTo wsX5_comesTo) := goodIn_app (goodIn_of _ (by decide +kernel)) ggL_law_X5_comesTo
set_option maxRecDepth 20000 in
theorem ggL_law_X4_kept : GoodIn wsL_law wsX4_kept := goodIn_r _ [608, 93, 22, 21, 521, 609, 500, 501, 502, 2, 503, 211, 347, 348, 349, 20, 350, 45, 46, 47, 48, 49, 50, 51, 52, 351, 166, 167, 168, 53, 54, 55, 56, 440, 441, 442, 443, 444, 445, 446, 447, 448, 449, 450, 451, 452, 453, 454, 455, 456, 457, 458, 459, 460, 461, 462, 463, 464, 465, 466, 467, 468, 884, 885, 886, 887, 888, 889, 890, 891, 892, 893, 921, 922, 923, 924, 925, 926, 927, 928, 929, 930, 931, 932] (by decide +kernel) (by decide +kernel)
set_option maxRecDepth 20000 in
theorem gL_law_X4_kept : GoodIn wsL_law (wsV RL 82 RX4 yX4_kept wsX4_kept) := goodIn_app (goodIn_of _ (by decide +kernel)) ggL_law_X4_kept
set_option maxRecDepth 20000 in
theorem ggL_law_X5_kept : GoodIn wsL_law wsX5_kept := goodIn_r _ [613, 121, 81, 575, 513, 514, 515, 5, 516, 79, 125, 126, 127, 589, 590, 591, 592, 399, 400, 401, 481, 482, 483, 484, 485, 486, 487, 488, 489, 490, 491, 492, 493, 494, 495, 894, 895, 896, 897, 898, 899, 900, 901, 902, 903, 904, 905, 906, 907, 908, 909, 910, 911, 912, 913, 914, 915, 916] (by decide +kernel) (by decide +kernel)
set_option maxRecDepth 20000 in
theorem gL_law_X5_kept : GoodIn wsL_law (wsV RL 85 RX5 yX5_kept wsX5_kept) := goodIn_app (goodIn_of _ (by decide +kernel)) ggL_law_X5_kept
set_option maxRecDepth 20000 in
theorem ggL_law_X4_past : GoodIn wsL_law wsX4_past := goodIn_r _ [617, 414, 93, 22, 21, 431, 609, 432, 433, 434, 2, 435, 211, 504, 505, 506, 97, 98, 99, 347, 348, 349, 20, 350, 45, 46, 47, 48, 49, 50, 51, 52, 351, 166, 167, 168, 53, 54, 55, 56, 440, 441, 442, 443, 444, 445, 446, 447, 448, 449, 450, 451, 452, 453, 454, 455, 456, 457, 458, 459, 460, 461, 462, 463, 464, 465, 466, 467, 468, 884, 885, 886, 887, 888, 889, 890, 891, 892, 893, 921, 922, 923, 924, 925, 926, 927, 928, 929, 930, 931, 932] (by decide +kernel) (by decide +kernel)
set_option maxRecDepth 20000 in
theorem gL_law_X4_past : GoodIn wsL_law (wsV RL 86 RX4 yX4_past wsX4_past) := goodIn_app (goodIn_of _ (by decide +kernel)) ggL_law_X4_past
set_option maxRecDepth 20000 in
theorem ggL_law_X5_past : GoodIn wsL_law wsX5_past := goodIn_r _ [621, 425, 121, 88, 575, 473, 474, 475, 5, 476, 79, 125, 126, 127, 622, 623, 624, 625, 81, 589, 590, 591, 592, 399, 400, 401, 481, 482, 483, 484, 485, 486, 487, 488, 489, 490, 491, 492, 493, 494, 495, 894, 895, 896, 897, 898, 899, 900, 901, 902, 903, 904, 905, 906, 907, 908, 909, 910, 911, 912, 913, 914, 915, 916] (by decide +kernel) (by decide +kernel)
set_option maxRecDepth 20000 in
theorem gL_law_X5_past : GoodIn wsL_law (wsV RL 89 RX5 yX5_past wsX5_past) := goodIn_app (goodIn_of _ (by decide +kernel)) ggL_law_X5_past
set_option maxRecDepth 20000 in
theorem ggL_law_X4_visits : GoodIn wsL_law wsX4_visits := goodIn_r _ [629, 414, 93, 22, 21, 431, 432, 433, 434, 2, 435, 211, 97, 98, 99, 347, 348, 349, 20, 350, 45, 46, 47, 48, 49, 50, 51, 52, 351, 166, 167, 168, 53, 54, 55, 56, 440, 441, 442, 443, 444, 445, 446, 447, 448, 449, 450, 451, 452, 453, 454, 455, 456, 457, 458, 459, 460, 461, 462, 463, 464, 465, 466, 467, 468, 884, 885, 886, 887, 888, 889, 890, 891, 892, 893, 921, 922, 923, 924, 925, 926, 927, 928, 929, 930, 931, 932] (by decide +kernel) (by decide +kernel)
set_option maxRecDepth 20000 in
theorem gL_law_X4_visits : GoodIn wsL_law (wsV RL 90 RX4 yX4_visits wsX4_visits) := goodIn_app (goodIn_of _ (by decide +kernel)) ggL_law_X4_visits
set_option maxRecDepth 20000 in
theorem ggL_law_X5_visits : GoodIn wsL_law wsX5_visits := goodIn_r _ [633, 425, 121, 88, 473, 474, 475, 5, 476, 79, 125, 126, 127, 622, 623, 624, 625, 81, 589, 590, 591, 592, 399, 400, 401, 481, 482, 483, 484, 485, 486, 487, 488, 489, 490, 491, 492, 493, 494, 495, 894, 895, 896, 897, 898, 899, 900, 901, 902, 903, 904, 905, 906, 907, 908, 909, 910, 911, 912, 913, 914, 915, 916] (by decide +kernel) (by decide +kernel)
set_option maxRecDepth 20000 in
theorem gL_law_X5_visits : GoodIn wsL_law (wsV RL 93 RX5 yX5_visits wsX5_visits) := goodIn_app (goodIn_of _ (by decide +kernel)) ggL_law_X5_visits
