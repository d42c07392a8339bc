theorem zc_bipush_6 : (Int8.ofInt 6).toInt32 = zI 6 := by decide +kernel
theorem zc_bipush_8 : (Int8.ofInt 8).toInt32 = zI 8 := by decide +kernel
