/-! the code tables against the bytes (by program: wip/whole/genwords.py) -/
theorem mm_dg0 : mm_g0.all mm_dc = true := by decide +kernel
theorem mm_dg4 : mm_g4.all mm_dc = true := by decide +kernel
theorem mm_dg8 : mm_g8.all mm_dc = true := by decide +kernel
theorem mm_dg12 : mm_g12.all mm_dc = true := by decide +kernel
theorem mm_dg16 : mm_g16.all mm_dc = true := by decide +kernel
