/-! the code tables against the bytes (by program: wip/whole/genwords.py) -/
theorem mm_dg0 : mm_g0.all mm_dc = true := by decide +kernel
theorem mm_dg5 : mm_g5.all mm_dc = true := by decide +kernel
theorem mm_dg10 : mm_g10.all mm_dc = true := by decide +kernel
theorem mm_dg15 : mm_g15.all mm_dc = true := by decide +kernel
