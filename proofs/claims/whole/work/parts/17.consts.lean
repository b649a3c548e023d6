theorem oi_m1 : Int32.ofInt (-1) = -1 := by decide +kernel
theorem oi_0 : Int32.ofInt 0 = nI 0 := by decide +kernel
theorem oi_1 : Int32.ofInt 1 = nI 1 := by decide +kernel
theorem oi_2 : Int32.ofInt 2 = nI 2 := by decide +kernel
theorem oi_3 : Int32.ofInt 3 = nI 3 := by decide +kernel
theorem oi_4 : Int32.ofInt 4 = nI 4 := by decide +kernel
theorem oi_5 : Int32.ofInt 5 = nI 5 := by decide +kernel
theorem bp_6 : (Int8.ofInt 6).toInt32 = nI 6 := by decide +kernel
theorem bp_7 : (Int8.ofInt 7).toInt32 = nI 7 := by decide +kernel
theorem bp_8 : (Int8.ofInt 8).toInt32 = nI 8 := by decide +kernel
theorem bp_9 : (Int8.ofInt 9).toInt32 = nI 9 := by decide +kernel
theorem bp_15 : (Int8.ofInt 15).toInt32 = nI 15 := by decide +kernel
theorem bp_17 : (Int8.ofInt 17).toInt32 = nI 17 := by decide +kernel
theorem bp_18 : (Int8.ofInt 18).toInt32 = nI 18 := by decide +kernel
theorem bp_20 : (Int8.ofInt 20).toInt32 = nI 20 := by decide +kernel
theorem bp_21 : (Int8.ofInt 21).toInt32 = nI 21 := by decide +kernel
theorem bp_24 : (Int8.ofInt 24).toInt32 = nI 24 := by decide +kernel
theorem bp_36 : (Int8.ofInt 36).toInt32 = nI 36 := by decide +kernel
theorem bp_48 : (Int8.ofInt 48).toInt32 = nI 48 := by decide +kernel
theorem bp_50 : (Int8.ofInt 50).toInt32 = nI 50 := by decide +kernel
theorem bp_60 : (Int8.ofInt 60).toInt32 = nI 60 := by decide +kernel
theorem bp_61 : (Int8.ofInt 61).toInt32 = nI 61 := by decide +kernel
theorem sp_1281 : (Int16.ofInt 1281).toInt32 = nI 1281 := by decide +kernel
theorem sp_9999 : (Int16.ofInt 9999).toInt32 = nI 9999 := by decide +kernel
theorem lc_100000 : Int32.ofNat 100000 = nI 100000 := rfl
theorem lc_1000000 : Int32.ofNat 1000000 = nI 1000000 := rfl
theorem cc_eq {x y : Int32} : ck_cc .eq x y = (x = y) := rfl
theorem cc_ne {x y : Int32} : ck_cc .ne x y = ¬ x = y := rfl
theorem cc_lt {x y : Int32} : ck_cc .lt x y = (x < y) := rfl
theorem cc_ge {x y : Int32} : ck_cc .ge x y = (y ≤ x) := rfl
theorem cc_gt {x y : Int32} : ck_cc .gt x y = (y < x) := rfl
theorem cc_le {x y : Int32} : ck_cc .le x y = (x ≤ y) := rfl
theorem z_or0 : (nI 0 = 0 ∨ nI 0 = 1) = True := by simp [nI_0]
theorem z_or1 : (nI 1 = 0 ∨ nI 1 = 1) = True := by
  have : nI 1 = 1 := by decide +kernel
  simp [this]
