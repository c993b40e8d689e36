/-! the code tables against the bytes (by program: wip/whole/genwords.py) -/
theorem mm_dg2 : mm_g2.all mm_dc = true := by decide +kernel
theorem mm_dg6 : mm_g6.all mm_dc = true := by decide +kernel
theorem mm_dg10 : mm_g10.all mm_dc = true := by decide +kernel
theorem mm_dg14 : mm_g14.all mm_dc = true := by decide +kernel
