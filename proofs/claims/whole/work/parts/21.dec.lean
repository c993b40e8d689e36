/-! the code tables against the bytes (by program: wip/whole/genwords.py) -/
theorem mm_dg1 : mm_g1.all mm_dc = true := by decide +kernel
theorem mm_dg5 : mm_g5.all mm_dc = true := by decide +kernel
theorem mm_dg9 : mm_g9.all mm_dc = true := by decide +kernel
theorem mm_dg13 : mm_g13.all mm_dc = true := by decide +kernel
theorem mm_dg17 : mm_g17.all mm_dc = true := by decide +kernel
