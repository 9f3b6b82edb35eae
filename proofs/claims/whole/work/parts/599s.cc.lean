/-! Constants, by program. -/
theorem cc_bm128 : (Int8.ofInt (-128)).toInt32 = ((-128) : Int32) := by decide
theorem cc_b31 : (Int8.ofInt 31).toInt32 = (31 : Int32) := by decide
theorem cc_b63 : (Int8.ofInt 63).toInt32 = (63 : Int32) := by decide
theorem cc_im87 : Int32.ofInt (-87) = ((-87) : Int32) := by decide
theorem cc_im55 : Int32.ofInt (-55) = ((-55) : Int32) := by decide
theorem cc_im48 : Int32.ofInt (-48) = ((-48) : Int32) := by decide
theorem cc_im20 : Int32.ofInt (-20) = ((-20) : Int32) := by decide
theorem cc_i20 : Int32.ofInt 20 = (20 : Int32) := by decide
theorem cc_s600 : (Int16.ofInt 600).toInt32 = (600 : Int32) := by decide
theorem cc_s792 : (Int16.ofInt 792).toInt32 = (792 : Int32) := by decide
theorem cc_s20001 : (Int16.ofInt 20001).toInt32 = (20001 : Int32) := by decide
