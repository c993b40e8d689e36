/-! the code tables against the bytes (by program: wip/whole/genwords.py) -/
theorem mm_dg3 : mm_g3.all mm_dc = true := by decide +kernel
theorem mm_dg8 : mm_g8.all mm_dc = true := by decide +kernel
theorem mm_dg13 : mm_g13.all mm_dc = true := by decide +kernel
