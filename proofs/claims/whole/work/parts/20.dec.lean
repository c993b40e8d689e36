/-! the code tables against the bytes (by program: wip/whole/genwords.py) -/
theorem mm_spl {α : Type} {l : List α} {f : α → Bool} (n : Nat) (h1 : (l.take n).all f = true) (h2 : (l.drop n).all f = true) : l.all f = true := by
  rw [← List.take_append_drop n l, List.all_append, h1, h2]
  rfl
theorem mm_l0 : ((mm_m282.2.2.2.drop 0).take 10).all (mm_dcc mm_m282) = true := by decide +kernel
theorem mm_l1 : ((mm_m282.2.2.2.drop 10).take 10).all (mm_dcc mm_m282) = true := by decide +kernel
theorem mm_l2 : ((mm_m282.2.2.2.drop 20).take 10).all (mm_dcc mm_m282) = true := by decide +kernel
theorem mm_l3 : ((mm_m282.2.2.2.drop 30).take 10).all (mm_dcc mm_m282) = true := by decide +kernel
theorem mm_l4 : ((mm_m282.2.2.2.drop 40).take 10).all (mm_dcc mm_m282) = true := by decide +kernel
theorem mm_l5 : ((mm_m282.2.2.2.drop 50).take 10).all (mm_dcc mm_m282) = true := by decide +kernel
theorem mm_dl : mm_dc mm_m282 = true := by
  unfold mm_dc
  refine mm_spl 10 mm_l0 (mm_spl 10 mm_l1 ?_)
  rw [List.drop_drop]
  refine mm_spl 10 mm_l2 ?_
  rw [List.drop_drop]
  refine mm_spl 10 mm_l3 ?_
  rw [List.drop_drop]
  refine mm_spl 10 mm_l4 ?_
  rw [List.drop_drop]
  exact mm_spl 10 mm_l5 (by decide +kernel)
