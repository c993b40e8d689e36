/-! the code tables against the bytes (by program: wip/whole/genwords.py) -/
theorem mm_dg2 : mm_g2.all mm_dc = true := by decide +kernel
theorem mm_dg7 : mm_g7.all mm_dc = true := by decide +kernel
theorem mm_dg12 : mm_g12.all mm_dc = true := by decide +kernel
theorem mm_dga : (mm_g17.take 10).all mm_dc = true := by decide +kernel
theorem mm_dgb : (mm_g17.drop 11).all mm_dc = true := by decide +kernel
theorem mm_dg17 : mm_g17.all mm_dc = true := by
  refine mm_spl 10 mm_dga ?_
  show (mm_m282 :: mm_g17.drop 11).all mm_dc = true
  rw [List.all_cons, mm_dl, mm_dgb]
  rfl
