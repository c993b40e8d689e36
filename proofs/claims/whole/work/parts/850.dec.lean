/-! the code tables against the bytes (by program: wip/whole/gendec.py) -/
theorem mm_spl {α : Type} {l : List α} {f : α → Bool} (n : Nat) (h1 : (l.take n).all f = true) (h2 : (l.drop n).all f = true) : l.all f = true := by
  rw [← List.take_append_drop n l, List.all_append, h1, h2]
  rfl
theorem mm_spn {α : Type} {l : List α} {f : α → Bool} (a k : Nat) (h1 : ((l.drop a).take k).all f = true) (h2 : (l.drop (a + k)).all f = true) : (l.drop a).all f = true := mm_spl k h1 (by rw [List.drop_drop]; exact h2)
theorem mm_lw_0 : ((mm_m282.2.2.2.drop 0).take 3).all (mm_dcc mm_m282) = true := by decide +kernel
theorem mm_lw_1 : ((mm_m282.2.2.2.drop 3).take 3).all (mm_dcc mm_m282) = true := by decide +kernel
theorem mm_lw_2 : ((mm_m282.2.2.2.drop 6).take 3).all (mm_dcc mm_m282) = true := by decide +kernel
theorem mm_lw_3 : ((mm_m282.2.2.2.drop 9).take 3).all (mm_dcc mm_m282) = true := by decide +kernel
theorem mm_lw_4 : ((mm_m282.2.2.2.drop 12).take 3).all (mm_dcc mm_m282) = true := by decide +kernel
theorem mm_lw_5 : ((mm_m282.2.2.2.drop 15).take 3).all (mm_dcc mm_m282) = true := by decide +kernel
theorem mm_lw_6 : ((mm_m282.2.2.2.drop 18).take 3).all (mm_dcc mm_m282) = true := by decide +kernel
theorem mm_lw_7 : ((mm_m282.2.2.2.drop 21).take 3).all (mm_dcc mm_m282) = true := by decide +kernel
theorem mm_lw_8 : ((mm_m282.2.2.2.drop 24).take 3).all (mm_dcc mm_m282) = true := by decide +kernel
theorem mm_lw_9 : ((mm_m282.2.2.2.drop 27).take 3).all (mm_dcc mm_m282) = true := by decide +kernel
