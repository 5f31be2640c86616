/-! numbers, and the cells of the heap -/
theorem zin_nI {j N : Nat} (hj : j < 2 ^ 31) : zin (nI j) N = decide (j < N) := by
  unfold zin
  rw [nI_clamp hj]
  have h := nI_pos hj
  by_cases g : j < N
  · simp [h, g]
  · simp [h, g, Nat.le_of_not_lt g]
theorem zin_ok {j N : Nat} (h : j < N) (hN : N ≤ 2 ^ 31) : zin (nI j) N = true := by
  rw [zin_nI (by omega), decide_eq_true h]
theorem nI_ofNat (j : Nat) : (OfNat.ofNat j : Int32) = nI j := rfl
theorem zt_0 : (0 : Int32).toNatClampNeg = 0 := by decide
theorem zi_0 {N : Nat} : zin 0 N = decide (0 < N) := zin_nI (j := 0) (by decide)
theorem zt_1 : (1 : Int32).toNatClampNeg = 1 := by decide
theorem zi_1 {N : Nat} : zin 1 N = decide (1 < N) := zin_nI (j := 1) (by decide)
theorem zt_2 : (2 : Int32).toNatClampNeg = 2 := by decide
theorem zi_2 {N : Nat} : zin 2 N = decide (2 < N) := zin_nI (j := 2) (by decide)
theorem zt_3 : (3 : Int32).toNatClampNeg = 3 := by decide
theorem zi_3 {N : Nat} : zin 3 N = decide (3 < N) := zin_nI (j := 3) (by decide)
theorem zt_4 : (4 : Int32).toNatClampNeg = 4 := by decide
theorem zi_4 {N : Nat} : zin 4 N = decide (4 < N) := zin_nI (j := 4) (by decide)
theorem zt_5 : (5 : Int32).toNatClampNeg = 5 := by decide
theorem zi_5 {N : Nat} : zin 5 N = decide (5 < N) := zin_nI (j := 5) (by decide)
theorem zt_6 : (6 : Int32).toNatClampNeg = 6 := by decide
theorem zi_6 {N : Nat} : zin 6 N = decide (6 < N) := zin_nI (j := 6) (by decide)
theorem zt_7 : (7 : Int32).toNatClampNeg = 7 := by decide
theorem zi_7 {N : Nat} : zin 7 N = decide (7 < N) := zin_nI (j := 7) (by decide)
theorem zt_8 : (8 : Int32).toNatClampNeg = 8 := by decide
theorem zi_8 {N : Nat} : zin 8 N = decide (8 < N) := zin_nI (j := 8) (by decide)
theorem zt_9 : (9 : Int32).toNatClampNeg = 9 := by decide
theorem zi_9 {N : Nat} : zin 9 N = decide (9 < N) := zin_nI (j := 9) (by decide)
theorem zt_10 : (10 : Int32).toNatClampNeg = 10 := by decide
theorem zi_10 {N : Nat} : zin 10 N = decide (10 < N) := zin_nI (j := 10) (by decide)
theorem zt_11 : (11 : Int32).toNatClampNeg = 11 := by decide
theorem zi_11 {N : Nat} : zin 11 N = decide (11 < N) := zin_nI (j := 11) (by decide)
theorem zt_12 : (12 : Int32).toNatClampNeg = 12 := by decide
theorem zi_12 {N : Nat} : zin 12 N = decide (12 < N) := zin_nI (j := 12) (by decide)
theorem zt_13 : (13 : Int32).toNatClampNeg = 13 := by decide
theorem zi_13 {N : Nat} : zin 13 N = decide (13 < N) := zin_nI (j := 13) (by decide)
theorem zt_14 : (14 : Int32).toNatClampNeg = 14 := by decide
theorem zi_14 {N : Nat} : zin 14 N = decide (14 < N) := zin_nI (j := 14) (by decide)
theorem zt_15 : (15 : Int32).toNatClampNeg = 15 := by decide
theorem zi_15 {N : Nat} : zin 15 N = decide (15 < N) := zin_nI (j := 15) (by decide)
theorem zt_16 : (16 : Int32).toNatClampNeg = 16 := by decide
theorem zi_16 {N : Nat} : zin 16 N = decide (16 < N) := zin_nI (j := 16) (by decide)
theorem zt_17 : (17 : Int32).toNatClampNeg = 17 := by decide
theorem zi_17 {N : Nat} : zin 17 N = decide (17 < N) := zin_nI (j := 17) (by decide)
theorem zt_18 : (18 : Int32).toNatClampNeg = 18 := by decide
theorem zi_18 {N : Nat} : zin 18 N = decide (18 < N) := zin_nI (j := 18) (by decide)
theorem zt_19 : (19 : Int32).toNatClampNeg = 19 := by decide
theorem zi_19 {N : Nat} : zin 19 N = decide (19 < N) := zin_nI (j := 19) (by decide)
theorem zt_20 : (20 : Int32).toNatClampNeg = 20 := by decide
theorem zi_20 {N : Nat} : zin 20 N = decide (20 < N) := zin_nI (j := 20) (by decide)
theorem zt_21 : (21 : Int32).toNatClampNeg = 21 := by decide
theorem zi_21 {N : Nat} : zin 21 N = decide (21 < N) := zin_nI (j := 21) (by decide)
theorem zt_22 : (22 : Int32).toNatClampNeg = 22 := by decide
theorem zi_22 {N : Nat} : zin 22 N = decide (22 < N) := zin_nI (j := 22) (by decide)
theorem zt_23 : (23 : Int32).toNatClampNeg = 23 := by decide
theorem zi_23 {N : Nat} : zin 23 N = decide (23 < N) := zin_nI (j := 23) (by decide)
theorem zt_24 : (24 : Int32).toNatClampNeg = 24 := by decide
theorem zi_24 {N : Nat} : zin 24 N = decide (24 < N) := zin_nI (j := 24) (by decide)
theorem zt_25 : (25 : Int32).toNatClampNeg = 25 := by decide
theorem zi_25 {N : Nat} : zin 25 N = decide (25 < N) := zin_nI (j := 25) (by decide)
theorem zt_26 : (26 : Int32).toNatClampNeg = 26 := by decide
theorem zi_26 {N : Nat} : zin 26 N = decide (26 < N) := zin_nI (j := 26) (by decide)
theorem zt_27 : (27 : Int32).toNatClampNeg = 27 := by decide
theorem zi_27 {N : Nat} : zin 27 N = decide (27 < N) := zin_nI (j := 27) (by decide)
theorem zt_28 : (28 : Int32).toNatClampNeg = 28 := by decide
theorem zi_28 {N : Nat} : zin 28 N = decide (28 < N) := zin_nI (j := 28) (by decide)
theorem zt_29 : (29 : Int32).toNatClampNeg = 29 := by decide
theorem zi_29 {N : Nat} : zin 29 N = decide (29 < N) := zin_nI (j := 29) (by decide)
theorem zt_30 : (30 : Int32).toNatClampNeg = 30 := by decide
theorem zi_30 {N : Nat} : zin 30 N = decide (30 < N) := zin_nI (j := 30) (by decide)
theorem zt_31 : (31 : Int32).toNatClampNeg = 31 := by decide
theorem zi_31 {N : Nat} : zin 31 N = decide (31 < N) := zin_nI (j := 31) (by decide)
theorem zt_32 : (32 : Int32).toNatClampNeg = 32 := by decide
theorem zi_32 {N : Nat} : zin 32 N = decide (32 < N) := zin_nI (j := 32) (by decide)
theorem zt_33 : (33 : Int32).toNatClampNeg = 33 := by decide
theorem zi_33 {N : Nat} : zin 33 N = decide (33 < N) := zin_nI (j := 33) (by decide)
theorem zt_34 : (34 : Int32).toNatClampNeg = 34 := by decide
theorem zi_34 {N : Nat} : zin 34 N = decide (34 < N) := zin_nI (j := 34) (by decide)
theorem zt_35 : (35 : Int32).toNatClampNeg = 35 := by decide
theorem zi_35 {N : Nat} : zin 35 N = decide (35 < N) := zin_nI (j := 35) (by decide)
theorem zt_36 : (36 : Int32).toNatClampNeg = 36 := by decide
theorem zi_36 {N : Nat} : zin 36 N = decide (36 < N) := zin_nI (j := 36) (by decide)
theorem zt_37 : (37 : Int32).toNatClampNeg = 37 := by decide
theorem zi_37 {N : Nat} : zin 37 N = decide (37 < N) := zin_nI (j := 37) (by decide)
theorem zt_38 : (38 : Int32).toNatClampNeg = 38 := by decide
theorem zi_38 {N : Nat} : zin 38 N = decide (38 < N) := zin_nI (j := 38) (by decide)
theorem zt_39 : (39 : Int32).toNatClampNeg = 39 := by decide
theorem zi_39 {N : Nat} : zin 39 N = decide (39 < N) := zin_nI (j := 39) (by decide)
theorem zt_40 : (40 : Int32).toNatClampNeg = 40 := by decide
theorem zi_40 {N : Nat} : zin 40 N = decide (40 < N) := zin_nI (j := 40) (by decide)
theorem zt_41 : (41 : Int32).toNatClampNeg = 41 := by decide
theorem zi_41 {N : Nat} : zin 41 N = decide (41 < N) := zin_nI (j := 41) (by decide)
theorem zt_42 : (42 : Int32).toNatClampNeg = 42 := by decide
theorem zi_42 {N : Nat} : zin 42 N = decide (42 < N) := zin_nI (j := 42) (by decide)
theorem zt_43 : (43 : Int32).toNatClampNeg = 43 := by decide
theorem zi_43 {N : Nat} : zin 43 N = decide (43 < N) := zin_nI (j := 43) (by decide)
theorem zt_44 : (44 : Int32).toNatClampNeg = 44 := by decide
theorem zi_44 {N : Nat} : zin 44 N = decide (44 < N) := zin_nI (j := 44) (by decide)
theorem zt_45 : (45 : Int32).toNatClampNeg = 45 := by decide
theorem zi_45 {N : Nat} : zin 45 N = decide (45 < N) := zin_nI (j := 45) (by decide)
theorem zt_46 : (46 : Int32).toNatClampNeg = 46 := by decide
theorem zi_46 {N : Nat} : zin 46 N = decide (46 < N) := zin_nI (j := 46) (by decide)
theorem zt_47 : (47 : Int32).toNatClampNeg = 47 := by decide
theorem zi_47 {N : Nat} : zin 47 N = decide (47 < N) := zin_nI (j := 47) (by decide)
theorem zt_48 : (48 : Int32).toNatClampNeg = 48 := by decide
theorem zi_48 {N : Nat} : zin 48 N = decide (48 < N) := zin_nI (j := 48) (by decide)
theorem zt_49 : (49 : Int32).toNatClampNeg = 49 := by decide
theorem zi_49 {N : Nat} : zin 49 N = decide (49 < N) := zin_nI (j := 49) (by decide)
theorem zt_50 : (50 : Int32).toNatClampNeg = 50 := by decide
theorem zi_50 {N : Nat} : zin 50 N = decide (50 < N) := zin_nI (j := 50) (by decide)
theorem zt_51 : (51 : Int32).toNatClampNeg = 51 := by decide
theorem zi_51 {N : Nat} : zin 51 N = decide (51 < N) := zin_nI (j := 51) (by decide)
theorem zt_52 : (52 : Int32).toNatClampNeg = 52 := by decide
theorem zi_52 {N : Nat} : zin 52 N = decide (52 < N) := zin_nI (j := 52) (by decide)
theorem zt_53 : (53 : Int32).toNatClampNeg = 53 := by decide
theorem zi_53 {N : Nat} : zin 53 N = decide (53 < N) := zin_nI (j := 53) (by decide)
theorem zt_54 : (54 : Int32).toNatClampNeg = 54 := by decide
theorem zi_54 {N : Nat} : zin 54 N = decide (54 < N) := zin_nI (j := 54) (by decide)
theorem zt_55 : (55 : Int32).toNatClampNeg = 55 := by decide
theorem zi_55 {N : Nat} : zin 55 N = decide (55 < N) := zin_nI (j := 55) (by decide)
theorem zt_56 : (56 : Int32).toNatClampNeg = 56 := by decide
theorem zi_56 {N : Nat} : zin 56 N = decide (56 < N) := zin_nI (j := 56) (by decide)
theorem zt_57 : (57 : Int32).toNatClampNeg = 57 := by decide
theorem zi_57 {N : Nat} : zin 57 N = decide (57 < N) := zin_nI (j := 57) (by decide)
theorem zt_58 : (58 : Int32).toNatClampNeg = 58 := by decide
theorem zi_58 {N : Nat} : zin 58 N = decide (58 < N) := zin_nI (j := 58) (by decide)
theorem zt_59 : (59 : Int32).toNatClampNeg = 59 := by decide
theorem zi_59 {N : Nat} : zin 59 N = decide (59 < N) := zin_nI (j := 59) (by decide)
theorem zt_60 : (60 : Int32).toNatClampNeg = 60 := by decide
theorem zi_60 {N : Nat} : zin 60 N = decide (60 < N) := zin_nI (j := 60) (by decide)
theorem zt_61 : (61 : Int32).toNatClampNeg = 61 := by decide
theorem zi_61 {N : Nat} : zin 61 N = decide (61 < N) := zin_nI (j := 61) (by decide)
theorem zt_62 : (62 : Int32).toNatClampNeg = 62 := by decide
theorem zi_62 {N : Nat} : zin 62 N = decide (62 < N) := zin_nI (j := 62) (by decide)
theorem zt_63 : (63 : Int32).toNatClampNeg = 63 := by decide
theorem zi_63 {N : Nat} : zin 63 N = decide (63 < N) := zin_nI (j := 63) (by decide)
theorem zz_1 : ((1 : Int32) = 0) = False := eq_false (by decide)
theorem zz_2 : ((2 : Int32) = 0) = False := eq_false (by decide)
theorem zz_3 : ((3 : Int32) = 0) = False := eq_false (by decide)
theorem zz_4 : ((4 : Int32) = 0) = False := eq_false (by decide)
theorem zz_5 : ((5 : Int32) = 0) = False := eq_false (by decide)
theorem zz_6 : ((6 : Int32) = 0) = False := eq_false (by decide)
theorem zz_7 : ((7 : Int32) = 0) = False := eq_false (by decide)
theorem zz_8 : ((8 : Int32) = 0) = False := eq_false (by decide)
theorem zz_9 : ((9 : Int32) = 0) = False := eq_false (by decide)
theorem zz_10 : ((10 : Int32) = 0) = False := eq_false (by decide)
theorem zz_11 : ((11 : Int32) = 0) = False := eq_false (by decide)
theorem zz_12 : ((12 : Int32) = 0) = False := eq_false (by decide)
theorem zz_13 : ((13 : Int32) = 0) = False := eq_false (by decide)
theorem zz_14 : ((14 : Int32) = 0) = False := eq_false (by decide)
theorem zz_15 : ((15 : Int32) = 0) = False := eq_false (by decide)
theorem zz_16 : ((16 : Int32) = 0) = False := eq_false (by decide)
theorem zz_17 : ((17 : Int32) = 0) = False := eq_false (by decide)
theorem zz_18 : ((18 : Int32) = 0) = False := eq_false (by decide)
theorem zz_19 : ((19 : Int32) = 0) = False := eq_false (by decide)
theorem zz_20 : ((20 : Int32) = 0) = False := eq_false (by decide)
theorem zz_21 : ((21 : Int32) = 0) = False := eq_false (by decide)
theorem zz_22 : ((22 : Int32) = 0) = False := eq_false (by decide)
theorem zz_23 : ((23 : Int32) = 0) = False := eq_false (by decide)
theorem zz_24 : ((24 : Int32) = 0) = False := eq_false (by decide)
theorem zz_25 : ((25 : Int32) = 0) = False := eq_false (by decide)
theorem zz_26 : ((26 : Int32) = 0) = False := eq_false (by decide)
theorem zz_27 : ((27 : Int32) = 0) = False := eq_false (by decide)
theorem zz_28 : ((28 : Int32) = 0) = False := eq_false (by decide)
theorem zz_29 : ((29 : Int32) = 0) = False := eq_false (by decide)
theorem zz_30 : ((30 : Int32) = 0) = False := eq_false (by decide)
theorem zz_31 : ((31 : Int32) = 0) = False := eq_false (by decide)
theorem zz_32 : ((32 : Int32) = 0) = False := eq_false (by decide)
theorem zz_33 : ((33 : Int32) = 0) = False := eq_false (by decide)
theorem zz_34 : ((34 : Int32) = 0) = False := eq_false (by decide)
theorem zz_35 : ((35 : Int32) = 0) = False := eq_false (by decide)
theorem zz_36 : ((36 : Int32) = 0) = False := eq_false (by decide)
theorem zz_37 : ((37 : Int32) = 0) = False := eq_false (by decide)
theorem zz_38 : ((38 : Int32) = 0) = False := eq_false (by decide)
theorem zz_39 : ((39 : Int32) = 0) = False := eq_false (by decide)
theorem zz_40 : ((40 : Int32) = 0) = False := eq_false (by decide)
theorem zz_41 : ((41 : Int32) = 0) = False := eq_false (by decide)
theorem zz_42 : ((42 : Int32) = 0) = False := eq_false (by decide)
theorem zz_43 : ((43 : Int32) = 0) = False := eq_false (by decide)
theorem zz_44 : ((44 : Int32) = 0) = False := eq_false (by decide)
theorem zz_45 : ((45 : Int32) = 0) = False := eq_false (by decide)
theorem zz_46 : ((46 : Int32) = 0) = False := eq_false (by decide)
theorem zz_47 : ((47 : Int32) = 0) = False := eq_false (by decide)
theorem zz_48 : ((48 : Int32) = 0) = False := eq_false (by decide)
theorem zz_49 : ((49 : Int32) = 0) = False := eq_false (by decide)
theorem zz_50 : ((50 : Int32) = 0) = False := eq_false (by decide)
theorem zz_51 : ((51 : Int32) = 0) = False := eq_false (by decide)
theorem zz_52 : ((52 : Int32) = 0) = False := eq_false (by decide)
theorem zz_53 : ((53 : Int32) = 0) = False := eq_false (by decide)
theorem zz_54 : ((54 : Int32) = 0) = False := eq_false (by decide)
theorem zz_55 : ((55 : Int32) = 0) = False := eq_false (by decide)
theorem zz_56 : ((56 : Int32) = 0) = False := eq_false (by decide)
theorem zz_57 : ((57 : Int32) = 0) = False := eq_false (by decide)
theorem zz_58 : ((58 : Int32) = 0) = False := eq_false (by decide)
theorem zz_59 : ((59 : Int32) = 0) = False := eq_false (by decide)
theorem zz_60 : ((60 : Int32) = 0) = False := eq_false (by decide)
theorem zz_61 : ((61 : Int32) = 0) = False := eq_false (by decide)
theorem zz_62 : ((62 : Int32) = 0) = False := eq_false (by decide)
theorem zz_63 : ((63 : Int32) = 0) = False := eq_false (by decide)
theorem zz_64 : ((64 : Int32) = 0) = False := eq_false (by decide)
theorem zn_1 : zint 1 = true := by decide +kernel
theorem zl_1 : zlen 1 = 6 := by decide +kernel
theorem zn_2 : zint 2 = true := by decide +kernel
theorem zl_2 : zlen 2 = 4 := by decide +kernel
theorem zo_3 : zobj 3 = 3 := by decide +kernel
theorem zr_3_0 : zref 3 0 = 4 := by decide +kernel
theorem zr_3_1 : zref 3 1 = 5 := by decide +kernel
theorem zr_3_2 : zref 3 2 = 6 := by decide +kernel
theorem zr_3_3 : zref 3 3 = 8 := by decide +kernel
theorem zr_3_4 : zref 3 4 = 9 := by decide +kernel
theorem zr_3_5 : zref 3 5 = 14 := by decide +kernel
theorem zr_3_6 : zref 3 6 = 19 := by decide +kernel
theorem zr_3_7 : zref 3 7 = 24 := by decide +kernel
theorem zr_3_8 : zref 3 8 = 27 := by decide +kernel
theorem zr_3_9 : zref 3 9 = 28 := by decide +kernel
theorem zr_3_10 : zref 3 10 = 35 := by decide +kernel
theorem zn_4 : zra 4 = true := by decide +kernel
theorem zl_4 : zlen 4 = 6 := by decide +kernel
theorem zr_4_0 : zref 4 0 = 36 := by decide +kernel
theorem zr_4_1 : zref 4 1 = 38 := by decide +kernel
theorem zr_4_2 : zref 4 2 = 40 := by decide +kernel
theorem zr_4_3 : zref 4 3 = 42 := by decide +kernel
theorem zr_4_4 : zref 4 4 = 44 := by decide +kernel
theorem zr_4_5 : zref 4 5 = 46 := by decide +kernel
theorem zn_5 : zra 5 = true := by decide +kernel
theorem zl_5 : zlen 5 = 4 := by decide +kernel
theorem zr_5_0 : zref 5 0 = 48 := by decide +kernel
theorem zr_5_1 : zref 5 1 = 50 := by decide +kernel
theorem zr_5_2 : zref 5 2 = 52 := by decide +kernel
theorem zr_5_3 : zref 5 3 = 54 := by decide +kernel
theorem zo_6 : zobj 6 = 2 := by decide +kernel
theorem zr_6_0 : zref 6 0 = 7 := by decide +kernel
theorem zn_7 : zint 7 = true := by decide +kernel
theorem zw_7 : zwr 7 = true := by decide +kernel
theorem zl_7 : zlen 7 = 40 := by decide +kernel
theorem zn_8 : zra 8 = true := by decide +kernel
theorem zl_8 : zlen 8 = 3 := by decide +kernel
theorem zr_8_0 : zref 8 0 = 56 := by decide +kernel
theorem zr_8_1 : zref 8 1 = 58 := by decide +kernel
theorem zr_8_2 : zref 8 2 = 60 := by decide +kernel
theorem zo_9 : zobj 9 = 0 := by decide +kernel
theorem zr_9_0 : zref 9 0 = 10 := by decide +kernel
theorem zr_9_1 : zref 9 1 = 11 := by decide +kernel
theorem zr_9_2 : zref 9 2 = 12 := by decide +kernel
theorem zr_9_3 : zref 9 3 = 13 := by decide +kernel
theorem zn_10 : zint 10 = true := by decide +kernel
theorem zw_10 : zwr 10 = true := by decide +kernel
theorem zl_10 : zlen 10 = 7 := by decide +kernel
theorem zn_11 : zint 11 = true := by decide +kernel
theorem zw_11 : zwr 11 = true := by decide +kernel
theorem zl_11 : zlen 11 = 7 := by decide +kernel
theorem zn_12 : zint 12 = true := by decide +kernel
theorem zw_12 : zwr 12 = true := by decide +kernel
theorem zl_12 : zlen 12 = 7 := by decide +kernel
theorem zn_13 : zint 13 = true := by decide +kernel
theorem zw_13 : zwr 13 = true := by decide +kernel
theorem zl_13 : zlen 13 = 7 := by decide +kernel
theorem zo_14 : zobj 14 = 0 := by decide +kernel
theorem zr_14_0 : zref 14 0 = 15 := by decide +kernel
theorem zr_14_1 : zref 14 1 = 16 := by decide +kernel
theorem zr_14_2 : zref 14 2 = 17 := by decide +kernel
theorem zr_14_3 : zref 14 3 = 18 := by decide +kernel
theorem zn_15 : zint 15 = true := by decide +kernel
theorem zw_15 : zwr 15 = true := by decide +kernel
theorem zl_15 : zlen 15 = 7 := by decide +kernel
theorem zn_16 : zint 16 = true := by decide +kernel
theorem zw_16 : zwr 16 = true := by decide +kernel
theorem zl_16 : zlen 16 = 7 := by decide +kernel
theorem zn_17 : zint 17 = true := by decide +kernel
theorem zw_17 : zwr 17 = true := by decide +kernel
theorem zl_17 : zlen 17 = 7 := by decide +kernel
theorem zn_18 : zint 18 = true := by decide +kernel
theorem zw_18 : zwr 18 = true := by decide +kernel
theorem zl_18 : zlen 18 = 7 := by decide +kernel
theorem zo_19 : zobj 19 = 0 := by decide +kernel
theorem zr_19_0 : zref 19 0 = 20 := by decide +kernel
theorem zr_19_1 : zref 19 1 = 21 := by decide +kernel
theorem zr_19_2 : zref 19 2 = 22 := by decide +kernel
theorem zr_19_3 : zref 19 3 = 23 := by decide +kernel
theorem zn_20 : zint 20 = true := by decide +kernel
theorem zw_20 : zwr 20 = true := by decide +kernel
theorem zl_20 : zlen 20 = 7 := by decide +kernel
theorem zn_21 : zint 21 = true := by decide +kernel
theorem zw_21 : zwr 21 = true := by decide +kernel
theorem zl_21 : zlen 21 = 7 := by decide +kernel
theorem zn_22 : zint 22 = true := by decide +kernel
theorem zw_22 : zwr 22 = true := by decide +kernel
theorem zl_22 : zlen 22 = 7 := by decide +kernel
theorem zn_23 : zint 23 = true := by decide +kernel
theorem zw_23 : zwr 23 = true := by decide +kernel
theorem zl_23 : zlen 23 = 7 := by decide +kernel
theorem zo_24 : zobj 24 = 1 := by decide +kernel
theorem zr_24_0 : zref 24 0 = 25 := by decide +kernel
theorem zr_24_1 : zref 24 1 = 26 := by decide +kernel
theorem zn_25 : zint 25 = true := by decide +kernel
theorem zw_25 : zwr 25 = true := by decide +kernel
theorem zl_25 : zlen 25 = 16 := by decide +kernel
theorem zn_26 : zint 26 = true := by decide +kernel
theorem zw_26 : zwr 26 = true := by decide +kernel
theorem zl_26 : zlen 26 = 16 := by decide +kernel
theorem zn_27 : zint 27 = true := by decide +kernel
theorem zw_27 : zwr 27 = true := by decide +kernel
theorem zl_27 : zlen 27 = 32 := by decide +kernel
theorem zn_28 : zra 28 = true := by decide +kernel
theorem zl_28 : zlen 28 = 6 := by decide +kernel
theorem zr_28_0 : zref 28 0 = 29 := by decide +kernel
theorem zr_28_1 : zref 28 1 = 30 := by decide +kernel
theorem zr_28_2 : zref 28 2 = 31 := by decide +kernel
theorem zr_28_3 : zref 28 3 = 32 := by decide +kernel
theorem zr_28_4 : zref 28 4 = 33 := by decide +kernel
theorem zr_28_5 : zref 28 5 = 34 := by decide +kernel
theorem zn_29 : zint 29 = true := by decide +kernel
theorem zw_29 : zwr 29 = true := by decide +kernel
theorem zl_29 : zlen 29 = 20 := by decide +kernel
theorem zn_30 : zint 30 = true := by decide +kernel
theorem zw_30 : zwr 30 = true := by decide +kernel
theorem zl_30 : zlen 30 = 20 := by decide +kernel
theorem zn_31 : zint 31 = true := by decide +kernel
theorem zw_31 : zwr 31 = true := by decide +kernel
theorem zl_31 : zlen 31 = 20 := by decide +kernel
theorem zn_32 : zint 32 = true := by decide +kernel
theorem zw_32 : zwr 32 = true := by decide +kernel
theorem zl_32 : zlen 32 = 20 := by decide +kernel
theorem zn_33 : zint 33 = true := by decide +kernel
theorem zw_33 : zwr 33 = true := by decide +kernel
theorem zl_33 : zlen 33 = 20 := by decide +kernel
theorem zn_34 : zint 34 = true := by decide +kernel
theorem zw_34 : zwr 34 = true := by decide +kernel
theorem zl_34 : zlen 34 = 20 := by decide +kernel
theorem zn_35 : zint 35 = true := by decide +kernel
theorem zw_35 : zwr 35 = true := by decide +kernel
theorem zl_35 : zlen 35 = 6 := by decide +kernel
theorem zo_36 : zobj 36 = 2 := by decide +kernel
theorem zr_36_0 : zref 36 0 = 37 := by decide +kernel
theorem zn_37 : zint 37 = true := by decide +kernel
theorem zw_37 : zwr 37 = true := by decide +kernel
theorem zl_37 : zlen 37 = 40 := by decide +kernel
theorem zo_38 : zobj 38 = 2 := by decide +kernel
theorem zr_38_0 : zref 38 0 = 39 := by decide +kernel
theorem zn_39 : zint 39 = true := by decide +kernel
theorem zw_39 : zwr 39 = true := by decide +kernel
theorem zl_39 : zlen 39 = 40 := by decide +kernel
theorem zo_40 : zobj 40 = 2 := by decide +kernel
theorem zr_40_0 : zref 40 0 = 41 := by decide +kernel
theorem zn_41 : zint 41 = true := by decide +kernel
theorem zw_41 : zwr 41 = true := by decide +kernel
theorem zl_41 : zlen 41 = 40 := by decide +kernel
theorem zo_42 : zobj 42 = 2 := by decide +kernel
theorem zr_42_0 : zref 42 0 = 43 := by decide +kernel
theorem zn_43 : zint 43 = true := by decide +kernel
theorem zw_43 : zwr 43 = true := by decide +kernel
theorem zl_43 : zlen 43 = 40 := by decide +kernel
theorem zo_44 : zobj 44 = 2 := by decide +kernel
theorem zr_44_0 : zref 44 0 = 45 := by decide +kernel
theorem zn_45 : zint 45 = true := by decide +kernel
theorem zw_45 : zwr 45 = true := by decide +kernel
theorem zl_45 : zlen 45 = 40 := by decide +kernel
theorem zo_46 : zobj 46 = 2 := by decide +kernel
theorem zr_46_0 : zref 46 0 = 47 := by decide +kernel
theorem zn_47 : zint 47 = true := by decide +kernel
theorem zw_47 : zwr 47 = true := by decide +kernel
theorem zl_47 : zlen 47 = 40 := by decide +kernel
theorem zo_48 : zobj 48 = 2 := by decide +kernel
theorem zr_48_0 : zref 48 0 = 49 := by decide +kernel
theorem zn_49 : zint 49 = true := by decide +kernel
theorem zw_49 : zwr 49 = true := by decide +kernel
theorem zl_49 : zlen 49 = 60 := by decide +kernel
theorem zo_50 : zobj 50 = 2 := by decide +kernel
theorem zr_50_0 : zref 50 0 = 51 := by decide +kernel
theorem zn_51 : zint 51 = true := by decide +kernel
theorem zw_51 : zwr 51 = true := by decide +kernel
theorem zl_51 : zlen 51 = 60 := by decide +kernel
theorem zo_52 : zobj 52 = 2 := by decide +kernel
theorem zr_52_0 : zref 52 0 = 53 := by decide +kernel
theorem zn_53 : zint 53 = true := by decide +kernel
theorem zw_53 : zwr 53 = true := by decide +kernel
theorem zl_53 : zlen 53 = 60 := by decide +kernel
theorem zo_54 : zobj 54 = 2 := by decide +kernel
theorem zr_54_0 : zref 54 0 = 55 := by decide +kernel
theorem zn_55 : zint 55 = true := by decide +kernel
theorem zw_55 : zwr 55 = true := by decide +kernel
theorem zl_55 : zlen 55 = 60 := by decide +kernel
theorem zo_56 : zobj 56 = 2 := by decide +kernel
theorem zr_56_0 : zref 56 0 = 57 := by decide +kernel
theorem zn_57 : zint 57 = true := by decide +kernel
theorem zw_57 : zwr 57 = true := by decide +kernel
theorem zl_57 : zlen 57 = 40 := by decide +kernel
theorem zo_58 : zobj 58 = 2 := by decide +kernel
theorem zr_58_0 : zref 58 0 = 59 := by decide +kernel
theorem zn_59 : zint 59 = true := by decide +kernel
theorem zw_59 : zwr 59 = true := by decide +kernel
theorem zl_59 : zlen 59 = 40 := by decide +kernel
theorem zo_60 : zobj 60 = 2 := by decide +kernel
theorem zr_60_0 : zref 60 0 = 61 := by decide +kernel
theorem zn_61 : zint 61 = true := by decide +kernel
theorem zw_61 : zwr 61 = true := by decide +kernel
theorem zl_61 : zlen 61 = 40 := by decide +kernel
theorem zo_62 : zobj 62 = 4 := by decide +kernel
theorem zr_62_0 : zref 62 0 = 63 := by decide +kernel
theorem zr_62_1 : zref 62 1 = 64 := by decide +kernel
theorem zr_62_2 : zref 62 2 = 65 := by decide +kernel
theorem zr_62_3 : zref 62 3 = 66 := by decide +kernel
theorem zr_62_5 : zref 62 5 = 67 := by decide +kernel
theorem zr_62_13 : zref 62 13 = 68 := by decide +kernel
theorem zr_62_15 : zref 62 15 = 69 := by decide +kernel
theorem zr_62_16 : zref 62 16 = 70 := by decide +kernel
theorem zr_62_17 : zref 62 17 = 71 := by decide +kernel
theorem zr_62_19 : zref 62 19 = 72 := by decide +kernel
theorem zr_62_20 : zref 62 20 = 73 := by decide +kernel
theorem zr_62_21 : zref 62 21 = 74 := by decide +kernel
theorem zr_62_22 : zref 62 22 = 75 := by decide +kernel
theorem zr_62_23 : zref 62 23 = 76 := by decide +kernel
theorem zr_62_24 : zref 62 24 = 77 := by decide +kernel
theorem zr_62_25 : zref 62 25 = 78 := by decide +kernel
theorem zr_62_26 : zref 62 26 = 79 := by decide +kernel
theorem zr_62_27 : zref 62 27 = 80 := by decide +kernel
theorem zr_62_28 : zref 62 28 = 81 := by decide +kernel
theorem zr_62_29 : zref 62 29 = 82 := by decide +kernel
theorem zn_63 : zint 63 = true := by decide +kernel
theorem zw_63 : zwr 63 = true := by decide +kernel
theorem zl_63 : zlen 63 = 6 := by decide +kernel
theorem zn_64 : zint 64 = true := by decide +kernel
theorem zw_64 : zwr 64 = true := by decide +kernel
theorem zl_64 : zlen 64 = 240 := by decide +kernel
theorem zn_65 : zint 65 = true := by decide +kernel
theorem zw_65 : zwr 65 = true := by decide +kernel
theorem zl_65 : zlen 65 = 4 := by decide +kernel
theorem zn_66 : zint 66 = true := by decide +kernel
theorem zw_66 : zwr 66 = true := by decide +kernel
theorem zl_66 : zlen 66 = 240 := by decide +kernel
theorem zn_67 : zint 67 = true := by decide +kernel
theorem zw_67 : zwr 67 = true := by decide +kernel
theorem zl_67 : zlen 67 = 6 := by decide +kernel
theorem zn_68 : zint 68 = true := by decide +kernel
theorem zw_68 : zwr 68 = true := by decide +kernel
theorem zl_68 : zlen 68 = 21 := by decide +kernel
theorem zn_69 : zint 69 = true := by decide +kernel
theorem zw_69 : zwr 69 = true := by decide +kernel
theorem zl_69 : zlen 69 = 7 := by decide +kernel
theorem zn_70 : zint 70 = true := by decide +kernel
theorem zw_70 : zwr 70 = true := by decide +kernel
theorem zl_70 : zlen 70 = 24 := by decide +kernel
theorem zn_71 : zint 71 = true := by decide +kernel
theorem zw_71 : zwr 71 = true := by decide +kernel
theorem zl_71 : zlen 71 = 960 := by decide +kernel
theorem zn_72 : zint 72 = true := by decide +kernel
theorem zw_72 : zwr 72 = true := by decide +kernel
theorem zl_72 : zlen 72 = 72 := by decide +kernel
theorem zn_73 : zint 73 = true := by decide +kernel
theorem zw_73 : zwr 73 = true := by decide +kernel
theorem zl_73 : zlen 73 = 2880 := by decide +kernel
theorem zn_74 : zint 74 = true := by decide +kernel
theorem zw_74 : zwr 74 = true := by decide +kernel
theorem zl_74 : zlen 74 = 3 := by decide +kernel
theorem zn_75 : zint 75 = true := by decide +kernel
theorem zw_75 : zwr 75 = true := by decide +kernel
theorem zl_75 : zlen 75 = 24 := by decide +kernel
theorem zn_76 : zint 76 = true := by decide +kernel
theorem zw_76 : zwr 76 = true := by decide +kernel
theorem zl_76 : zlen 76 = 7 := by decide +kernel
theorem zn_77 : zint 77 = true := by decide +kernel
theorem zw_77 : zwr 77 = true := by decide +kernel
theorem zl_77 : zlen 77 = 32 := by decide +kernel
theorem zn_78 : zint 78 = true := by decide +kernel
theorem zw_78 : zwr 78 = true := by decide +kernel
theorem zl_78 : zlen 78 = 16 := by decide +kernel
theorem zn_79 : zint 79 = true := by decide +kernel
theorem zw_79 : zwr 79 = true := by decide +kernel
theorem zl_79 : zlen 79 = 16 := by decide +kernel
theorem zn_80 : zint 80 = true := by decide +kernel
theorem zw_80 : zwr 80 = true := by decide +kernel
theorem zl_80 : zlen 80 = 32 := by decide +kernel
theorem zn_81 : zint 81 = true := by decide +kernel
theorem zw_81 : zwr 81 = true := by decide +kernel
theorem zl_81 : zlen 81 = 16 := by decide +kernel
theorem zn_82 : zint 82 = true := by decide +kernel
theorem zw_82 : zwr 82 = true := by decide +kernel
theorem zl_82 : zlen 82 = 120 := by decide +kernel
