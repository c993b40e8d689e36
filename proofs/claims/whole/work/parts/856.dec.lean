/-! the code tables against the bytes (by program: wip/whole/genwords.py) -/
theorem mm_dg4 : mm_g4.all mm_dc = true := by decide +kernel
theorem mm_dg9 : mm_g9.all mm_dc = true := by decide +kernel
theorem mm_dg14 : mm_g14.all mm_dc = true := by decide +kernel
theorem mm_dc_all (j : Nat) : mm_dc (mm_x j) = true := by
  have h0 : mm_dc mm_m0 = true := List.all_eq_true.mp mm_dg0 mm_m0 List.mem_cons_self
  have ha : ∀ g ∈ mm_all, g.all mm_dc = true := by
    intro g hg
    simp only [mm_all, List.mem_cons, List.not_mem_nil, or_false] at hg
    rcases hg with rfl | rfl | rfl | rfl | rfl | rfl | rfl | rfl | rfl | rfl | rfl | rfl | rfl | rfl | rfl | rfl | rfl | rfl
    · exact mm_dg0
    · exact mm_dg1
    · exact mm_dg2
    · exact mm_dg3
    · exact mm_dg4
    · exact mm_dg5
    · exact mm_dg6
    · exact mm_dg7
    · exact mm_dg8
    · exact mm_dg9
    · exact mm_dg10
    · exact mm_dg11
    · exact mm_dg12
    · exact mm_dg13
    · exact mm_dg14
    · exact mm_dg15
    · exact mm_dg16
    · exact mm_dg17
  unfold mm_x
  cases h1 : mm_all[j / 16]? with
  | none => rw [List.getD_eq_getElem?_getD (l := mm_all), h1]; exact h0
  | some g =>
    rw [List.getD_eq_getElem?_getD (l := mm_all), h1]
    show mm_dc (g.getD (j % 16) mm_m0) = true
    cases h2 : g[j % 16]? with
    | none => rw [List.getD_eq_getElem?_getD, h2]; exact h0
    | some y =>
      rw [List.getD_eq_getElem?_getD, h2]
      exact List.all_eq_true.mp (ha g (List.mem_of_getElem? h1)) y (List.mem_of_getElem? h2)
