/-! the bytes of the methods, part 1 -/
set_option maxRecDepth 100000 in
theorem zk_0 : zk_P 0 0 73 := zk_of (by decide +kernel)
set_option maxRecDepth 100000 in
theorem zk_1 : zk_P 1 0 56 := zk_of (by decide +kernel)
set_option maxRecDepth 100000 in
theorem zk_2 : zk_P 2 0 74 := zk_of (by decide +kernel)
set_option maxRecDepth 100000 in
theorem zk_3 : zk_P 3 0 77 := zk_of (by decide +kernel)
set_option maxRecDepth 100000 in
theorem zk_4 : zk_P 4 0 77 := zk_of (by decide +kernel)
set_option maxRecDepth 100000 in
theorem zk_5 : zk_P 5 0 33 := zk_of (by decide +kernel)
set_option maxRecDepth 100000 in
theorem zk_6 : zk_P 6 0 29 := zk_of (by decide +kernel)
set_option maxRecDepth 100000 in
theorem zk_7 : zk_P 7 0 10 := zk_of (by decide +kernel)
set_option maxRecDepth 100000 in
theorem zk_8 : zk_P 8 0 57 := zk_of (by decide +kernel)
set_option maxRecDepth 100000 in
theorem zk_9 : zk_P 9 0 38 := zk_of (by decide +kernel)
set_option maxRecDepth 100000 in
theorem zk_10 : zk_P 10 0 30 := zk_of (by decide +kernel)
set_option maxRecDepth 100000 in
theorem zk_11 : zk_P 11 0 46 := zk_of (by decide +kernel)
set_option maxRecDepth 100000 in
theorem zk_12 : zk_P 12 0 22 := zk_of (by decide +kernel)
set_option maxRecDepth 100000 in
theorem zk_13 : zk_P 13 0 27 := zk_of (by decide +kernel)
set_option maxRecDepth 100000 in
theorem zk_14 : zk_P 14 0 90 := zk_of (by decide +kernel)
set_option maxRecDepth 100000 in
theorem zk_15 : zk_P 15 0 40 := zk_of (by decide +kernel)
set_option maxRecDepth 100000 in
theorem zk_16 : zk_P 16 0 115 := zk_of (by decide +kernel)
set_option maxRecDepth 100000 in
theorem zk_17 : zk_P 17 0 27 := zk_of (by decide +kernel)
set_option maxRecDepth 100000 in
theorem zk_18 : zk_P 18 0 94 := zk_of (by decide +kernel)
set_option maxRecDepth 100000 in
theorem zk_19 : zk_P 19 0 61 := zk_of (by decide +kernel)
set_option maxRecDepth 100000 in
theorem zk_20 : zk_P 20 0 12 := zk_of (by decide +kernel)
set_option maxRecDepth 100000 in
theorem zk_21 : zk_P 21 0 17 := zk_of (by decide +kernel)
set_option maxRecDepth 100000 in
theorem zk_22 : zk_P 22 0 37 := zk_of (by decide +kernel)
set_option maxRecDepth 100000 in
theorem zk_23 : zk_P 23 0 43 := zk_of (by decide +kernel)
set_option maxRecDepth 100000 in
theorem zk_24 : zk_P 24 0 28 := zk_of (by decide +kernel)
set_option maxRecDepth 100000 in
theorem zk_25 : zk_P 25 0 27 := zk_of (by decide +kernel)
set_option maxRecDepth 100000 in
theorem zk_26 : zk_P 26 0 35 := zk_of (by decide +kernel)
set_option maxRecDepth 100000 in
theorem zk_27 : zk_P 27 0 18 := zk_of (by decide +kernel)
set_option maxRecDepth 100000 in
theorem zk_28 : zk_P 28 0 57 := zk_of (by decide +kernel)
set_option maxRecDepth 100000 in
theorem zk_29 : zk_P 29 0 83 := zk_of (by decide +kernel)
set_option maxRecDepth 100000 in
theorem zk_30 : zk_P 30 0 80 := zk_of (by decide +kernel)
set_option maxRecDepth 100000 in
theorem zk_31 : zk_P 31 0 53 := zk_of (by decide +kernel)
set_option maxRecDepth 100000 in
theorem zk_32 : zk_P 32 0 13 := zk_of (by decide +kernel)
set_option maxRecDepth 100000 in
theorem zk_33 : zk_P 33 0 43 := zk_of (by decide +kernel)
set_option maxRecDepth 100000 in
theorem zk_34_0 : zk_P 34 0 120 := zk_of (by decide +kernel)
set_option maxRecDepth 100000 in
theorem zk_34_120 : zk_P 34 120 176 := zk_of (by decide +kernel)
theorem zk_34 : zk_P 34 0 176 := zk_app zk_34_0 (zk_34_120)
set_option maxRecDepth 100000 in
theorem zk_35 : zk_P 35 0 18 := zk_of (by decide +kernel)
set_option maxRecDepth 100000 in
theorem zk_36 : zk_P 36 0 95 := zk_of (by decide +kernel)
set_option maxRecDepth 100000 in
theorem zk_37_0 : zk_P 37 0 120 := zk_of (by decide +kernel)
set_option maxRecDepth 100000 in
theorem zk_37_120 : zk_P 37 120 191 := zk_of (by decide +kernel)
theorem zk_37 : zk_P 37 0 191 := zk_app zk_37_0 (zk_37_120)
set_option maxRecDepth 100000 in
theorem zk_38 : zk_P 38 0 37 := zk_of (by decide +kernel)
set_option maxRecDepth 100000 in
theorem zk_39 : zk_P 39 0 38 := zk_of (by decide +kernel)
set_option maxRecDepth 100000 in
theorem zk_40 : zk_P 40 0 33 := zk_of (by decide +kernel)
set_option maxRecDepth 100000 in
theorem zk_41 : zk_P 41 0 40 := zk_of (by decide +kernel)
set_option maxRecDepth 100000 in
theorem zk_42 : zk_P 42 0 40 := zk_of (by decide +kernel)
set_option maxRecDepth 100000 in
theorem zk_43 : zk_P 43 0 19 := zk_of (by decide +kernel)
set_option maxRecDepth 100000 in
theorem zk_44 : zk_P 44 0 25 := zk_of (by decide +kernel)
set_option maxRecDepth 100000 in
theorem zk_45 : zk_P 45 0 22 := zk_of (by decide +kernel)
set_option maxRecDepth 100000 in
theorem zk_46 : zk_P 46 0 67 := zk_of (by decide +kernel)
set_option maxRecDepth 100000 in
theorem zk_47 : zk_P 47 0 58 := zk_of (by decide +kernel)
set_option maxRecDepth 100000 in
theorem zk_48 : zk_P 48 0 50 := zk_of (by decide +kernel)
set_option maxRecDepth 100000 in
theorem zk_49 : zk_P 49 0 37 := zk_of (by decide +kernel)
set_option maxRecDepth 100000 in
theorem zk_50 : zk_P 50 0 6 := zk_of (by decide +kernel)
set_option maxRecDepth 100000 in
theorem zk_51 : zk_P 51 0 70 := zk_of (by decide +kernel)
set_option maxRecDepth 100000 in
theorem zk_52 : zk_P 52 0 36 := zk_of (by decide +kernel)
set_option maxRecDepth 100000 in
theorem zk_53 : zk_P 53 0 101 := zk_of (by decide +kernel)
set_option maxRecDepth 100000 in
theorem zk_54_0 : zk_P 54 0 120 := zk_of (by decide +kernel)
set_option maxRecDepth 100000 in
theorem zk_54_120 : zk_P 54 120 159 := zk_of (by decide +kernel)
theorem zk_54 : zk_P 54 0 159 := zk_app zk_54_0 (zk_54_120)
set_option maxRecDepth 100000 in
theorem zk_55 : zk_P 55 0 50 := zk_of (by decide +kernel)
set_option maxRecDepth 100000 in
theorem zk_56 : zk_P 56 0 22 := zk_of (by decide +kernel)
set_option maxRecDepth 100000 in
theorem zk_57 : zk_P 57 0 41 := zk_of (by decide +kernel)
set_option maxRecDepth 100000 in
theorem zk_58 : zk_P 58 0 41 := zk_of (by decide +kernel)
set_option maxRecDepth 100000 in
theorem zk_59 : zk_P 59 0 18 := zk_of (by decide +kernel)
set_option maxRecDepth 100000 in
theorem zk_60 : zk_P 60 0 42 := zk_of (by decide +kernel)
set_option maxRecDepth 100000 in
theorem zk_61 : zk_P 61 0 104 := zk_of (by decide +kernel)
set_option maxRecDepth 100000 in
theorem zk_62 : zk_P 62 0 22 := zk_of (by decide +kernel)
set_option maxRecDepth 100000 in
theorem zk_63 : zk_P 63 0 14 := zk_of (by decide +kernel)
set_option maxRecDepth 100000 in
theorem zk_64 : zk_P 64 0 21 := zk_of (by decide +kernel)
set_option maxRecDepth 100000 in
theorem zk_65 : zk_P 65 0 32 := zk_of (by decide +kernel)
set_option maxRecDepth 100000 in
theorem zk_66 : zk_P 66 0 16 := zk_of (by decide +kernel)
set_option maxRecDepth 100000 in
theorem zk_67 : zk_P 67 0 33 := zk_of (by decide +kernel)
set_option maxRecDepth 100000 in
theorem zk_68 : zk_P 68 0 29 := zk_of (by decide +kernel)
set_option maxRecDepth 100000 in
theorem zk_69 : zk_P 69 0 30 := zk_of (by decide +kernel)
set_option maxRecDepth 100000 in
theorem zk_70 : zk_P 70 0 64 := zk_of (by decide +kernel)
