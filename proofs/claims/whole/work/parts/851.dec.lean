/-! the code tables against the bytes -/
theorem mm_lw_10 : ((mm_m282.2.2.2.drop 30).take 3).all (mm_dcc mm_m282) = true := by decide +kernel
theorem mm_lw_11 : ((mm_m282.2.2.2.drop 33).take 3).all (mm_dcc mm_m282) = true := by decide +kernel
theorem mm_lw_12 : ((mm_m282.2.2.2.drop 36).take 3).all (mm_dcc mm_m282) = true := by decide +kernel
theorem mm_lw_13 : ((mm_m282.2.2.2.drop 39).take 3).all (mm_dcc mm_m282) = true := by decide +kernel
theorem mm_lw_14 : ((mm_m282.2.2.2.drop 42).take 3).all (mm_dcc mm_m282) = true := by decide +kernel
theorem mm_lw_15 : ((mm_m282.2.2.2.drop 45).take 3).all (mm_dcc mm_m282) = true := by decide +kernel
theorem mm_lw_16 : ((mm_m282.2.2.2.drop 48).take 3).all (mm_dcc mm_m282) = true := by decide +kernel
theorem mm_lw_17 : ((mm_m282.2.2.2.drop 51).take 3).all (mm_dcc mm_m282) = true := by decide +kernel
theorem mm_lw_18 : ((mm_m282.2.2.2.drop 54).take 3).all (mm_dcc mm_m282) = true := by decide +kernel
theorem mm_dl : mm_dc mm_m282 = true := mm_spn 0 3 mm_lw_0 (mm_spn 3 3 mm_lw_1 (mm_spn 6 3 mm_lw_2 (mm_spn 9 3 mm_lw_3 (mm_spn 12 3 mm_lw_4 (mm_spn 15 3 mm_lw_5 (mm_spn 18 3 mm_lw_6 (mm_spn 21 3 mm_lw_7 (mm_spn 24 3 mm_lw_8 (mm_spn 27 3 mm_lw_9 (mm_spn 30 3 mm_lw_10 (mm_spn 33 3 mm_lw_11 (mm_spn 36 3 mm_lw_12 (mm_spn 39 3 mm_lw_13 (mm_spn 42 3 mm_lw_14 (mm_spn 45 3 mm_lw_15 (mm_spn 48 3 mm_lw_16 (mm_spn 51 3 mm_lw_17 (mm_spn 54 3 mm_lw_18 (by decide +kernel)))))))))))))))))))
