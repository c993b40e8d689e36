/-! the code tables against the bytes (by program: wip/whole/genwords.py) -/
theorem mm_dg1 : mm_g1.all mm_dc = true := by decide +kernel
theorem mm_dg6 : mm_g6.all mm_dc = true := by decide +kernel
theorem mm_dg11 : mm_g11.all mm_dc = true := by decide +kernel
theorem mm_dg16 : mm_g16.all mm_dc = true := by decide +kernel
