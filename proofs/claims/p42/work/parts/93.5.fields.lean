theorem gqX0 : ∀ w ∈ wsX00, qG w := goodIn_r _ [134, 136, 138, 140, 142, 144, 146] (by decide +kernel) (by decide +kernel)
theorem inX0 : ∀ w ∈ wsX00, w ∈ lw_tbl := fun w h => (gqX0 w h).1
theorem gqX1 : ∀ w ∈ wsX10, qG w := goodIn_r _ [199, 201, 203, 205, 207, 209, 211, 213, 215, 217, 219, 221, 223] (by decide +kernel) (by decide +kernel)
theorem inX1 : ∀ w ∈ wsX10, w ∈ lw_tbl := fun w h => (gqX1 w h).1
theorem gqX2 : ∀ w ∈ wsX20, qG w := goodIn_r _ [101, 103, 105] (by decide +kernel) (by decide +kernel)
theorem inX2 : ∀ w ∈ wsX20, w ∈ lw_tbl := fun w h => (gqX2 w h).1
theorem gqX3 : ∀ w ∈ wsX30, qG w := goodIn_r _ [239, 241, 243] (by decide +kernel) (by decide +kernel)
theorem inX3 : ∀ w ∈ wsX30, w ∈ lw_tbl := fun w h => (gqX3 w h).1
theorem gqX4 : ∀ w ∈ wsX40, qG w := goodIn_r _ [162, 164, 166, 168, 170] (by decide +kernel) (by decide +kernel)
theorem inX4 : ∀ w ∈ wsX40, w ∈ lw_tbl := fun w h => (gqX4 w h).1
theorem gqX5 : ∀ w ∈ wsX50, qG w := goodIn_r _ [256, 258, 260, 262, 264, 266, 268, 270, 272, 274] (by decide +kernel) (by decide +kernel)
theorem inX5 : ∀ w ∈ wsX50, w ∈ lw_tbl := fun w h => (gqX5 w h).1
theorem gqX6 : ∀ w ∈ wsX60, qG w := goodIn_r _ [837, 839, 841, 843, 845, 847, 849, 851, 853, 855, 857, 859, 861, 863, 865, 867, 869, 871, 873, 875, 877, 879, 881, 883, 885, 887, 889, 891, 893] (by decide +kernel) (by decide +kernel)
theorem inX6 : ∀ w ∈ wsX60, w ∈ lw_tbl := fun w h => (gqX6 w h).1
