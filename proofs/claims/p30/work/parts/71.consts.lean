/-! constants of the law -/
theorem zc_bipush_100 : (Int8.ofInt 100).toInt32 = zI 100 := by decide +kernel
theorem zc_bipush_13 : (Int8.ofInt 13).toInt32 = zI 13 := by decide +kernel
theorem zc_bipush_21 : (Int8.ofInt 21).toInt32 = zI 21 := by decide +kernel
theorem zc_bipush_39 : (Int8.ofInt 39).toInt32 = zI 39 := by decide +kernel
theorem zc_bipush_61 : (Int8.ofInt 61).toInt32 = zI 61 := by decide +kernel
theorem zc_bipush_68 : (Int8.ofInt 68).toInt32 = zI 68 := by decide +kernel
theorem zc_bipush_70 : (Int8.ofInt 70).toInt32 = zI 70 := by decide +kernel
theorem zc_bipush_75 : (Int8.ofInt 75).toInt32 = zI 75 := by decide +kernel
theorem zc_bipush_76 : (Int8.ofInt 76).toInt32 = zI 76 := by decide +kernel
theorem zc_bipush_80 : (Int8.ofInt 80).toInt32 = zI 80 := by decide +kernel
theorem zc_bipush_95 : (Int8.ofInt 95).toInt32 = zI 95 := by decide +kernel
theorem zc_bipush_m2 : (Int8.ofInt (-2)).toInt32 = zI (-2) := by decide +kernel
theorem zc_sipush_201 : (Int16.ofInt 201).toInt32 = zI 201 := by decide +kernel
theorem zc_sipush_256 : (Int16.ofInt 256).toInt32 = zI 256 := by decide +kernel
theorem zc_sipush_7919 : (Int16.ofInt 7919).toInt32 = zI 7919 := by decide +kernel
theorem zc_sipush_m2000 : (Int16.ofInt (-2000)).toInt32 = zI (-2000) := by decide +kernel
