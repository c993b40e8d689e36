/-! SOUNDNESS, seventh part: of each method what its call asks (lists by program: wip/whole) -/
/-- the private methods: 9999 is none of ours -/
def mm_pp : List (MethodName × Nat) → List Nat → Prop
  | w :: ws, j :: js => (match j with
    | 9999 => True
    | k => w.1 = (mm_x k).1.1) ∧ mm_pp ws js
  | _, [] => True
  | [], _ :: _ => False
theorem mm_pp_mem : ∀ (ws : List (MethodName × Nat)) (js : List Nat), mm_pp ws js → ∀ j ∈ js, ¬ j = 9999 → ∃ w ∈ ws, w.1 = (mm_x j).1.1
  | [], [], _, _, h, _ => absurd h List.not_mem_nil
  | [], _ :: _, h, _, _, _ => by cases h
  | _ :: _, [], _, _, h, _ => absurd h List.not_mem_nil
  | w :: ws, j0 :: js, h, j, hj, h0 => by
    rcases List.mem_cons.mp hj with e | hj
    · subst e
      have h1 := h.1
      split at h1
      · next z => exact absurd rfl h0
      · exact ⟨w, List.mem_cons_self, h1⟩
    · obtain ⟨w', a, b⟩ := mm_pp_mem ws js h.2 j hj h0
      exact ⟨w', List.mem_cons_of_mem _ a, b⟩
def mm_pj1 : List Nat := [132, 44, 45, 46, 141, 8, 10, 11, 12, 13, 16, 17, 14, 15, 18, 142]
set_option maxRecDepth 100000 in
theorem mm_pz1 : mm_pp lw_privs_1 mm_pj1 := ⟨rfl, rfl, rfl, rfl, rfl, rfl, rfl, rfl, rfl, rfl, rfl, rfl, rfl, rfl, rfl, rfl, trivial⟩
def mm_pj2 : List Nat := [144, 9999, 80, 82, 91, 83, 88, 89, 90, 84, 86, 87, 85, 81, 138, 133]
set_option maxRecDepth 100000 in
theorem mm_pz2 : mm_pp lw_privs_2 mm_pj2 := ⟨rfl, trivial, rfl, rfl, rfl, rfl, rfl, rfl, rfl, rfl, rfl, rfl, rfl, rfl, rfl, rfl, trivial⟩
def mm_pj3 : List Nat := [139, 140, 143, 64, 65, 70, 69, 66, 67, 68, 72, 74, 151, 150, 165, 162]
set_option maxRecDepth 100000 in
theorem mm_pz3 : mm_pp lw_privs_3 mm_pj3 := ⟨rfl, rfl, rfl, rfl, rfl, rfl, rfl, rfl, rfl, rfl, rfl, rfl, rfl, rfl, rfl, rfl, trivial⟩
def mm_pj4 : List Nat := [152, 158, 155, 156, 166, 146, 163, 157, 171, 177, 179, 180, 183, 182, 181, 184]
set_option maxRecDepth 100000 in
theorem mm_pz4 : mm_pp lw_privs_4 mm_pj4 := ⟨rfl, rfl, rfl, rfl, rfl, rfl, rfl, rfl, rfl, rfl, rfl, rfl, rfl, rfl, rfl, rfl, trivial⟩
def mm_pj5 : List Nat := [195, 193, 196, 197, 198, 199, 194, 201, 192, 202, 200, 188, 203, 189, 205, 206]
set_option maxRecDepth 100000 in
theorem mm_pz5 : mm_pp lw_privs_5 mm_pj5 := ⟨rfl, rfl, rfl, rfl, rfl, rfl, rfl, rfl, rfl, rfl, rfl, rfl, rfl, rfl, rfl, rfl, trivial⟩
def mm_pj6 : List Nat := [208, 212, 215, 218, 217, 219, 220, 223, 238, 232, 229, 247, 235, 245, 233, 236]
set_option maxRecDepth 100000 in
theorem mm_pz6 : mm_pp lw_privs_6 mm_pj6 := ⟨rfl, rfl, rfl, rfl, rfl, rfl, rfl, rfl, rfl, rfl, rfl, rfl, rfl, rfl, rfl, rfl, trivial⟩
def mm_pj7 : List Nat := [242, 243, 239, 246, 244, 237, 234, 240, 260, 259, 258, 257, 252, 256, 255, 253]
set_option maxRecDepth 100000 in
theorem mm_pz7 : mm_pp lw_privs_7 mm_pj7 := ⟨rfl, rfl, rfl, rfl, rfl, rfl, rfl, rfl, rfl, rfl, rfl, rfl, rfl, rfl, rfl, rfl, trivial⟩
def mm_pj8 : List Nat := [249, 250, 251, 254]
set_option maxRecDepth 100000 in
theorem mm_pz8 : mm_pp lw_privs_8 mm_pj8 := ⟨rfl, rfl, rfl, rfl, trivial⟩
def mm_pj : List Nat := mm_pj1 ++ (mm_pj2 ++ (mm_pj3 ++ (mm_pj4 ++ (mm_pj5 ++ (mm_pj6 ++ (mm_pj7 ++ (mm_pj8)))))))
def mm_prv (j : Nat) : Bool := mm_pj.any (fun q => Nat.beq q j)
def mm_kd (j : Nat) : Bool :=
  (bif mm_sta j then mm_has (6, j, 0, 0) && decide ((parseMethodDescriptor (mm_x j).1.1.desc).map (fun d => d.parameters.length) = some (mm_x j).2.1.2.1) else mm_has (7, j, 0, 0) && decide ((parseMethodDescriptor (mm_x j).1.1.desc).map (fun d => d.parameters.length + 1) = some (mm_x j).2.1.2.1))
  && ((bif (mm_hh j).isEmpty then mm_has (4, j, 0, 0) && (mm_x j).2.2.1.2.2.isEmpty else mm_has (5, j, 0, 0) && mm_sta j)
  && (plainName (mm_x j).1.1.cls && (decide ((mm_x j).1.1.cls ≠ "java/lang/invoke/MethodHandle") && (decide ((mm_x j).1.1.cls ≠ "java/lang/invoke/VarHandle")
  && (Nat.ble (mm_x j).1.2.2.1 20 && (decide (mm_cn (mm_x j).2.1.1 = (mm_x j).1.1.cls) && (Nat.ble ((mm_x j).2.1.1 + 1) 14 && (mm_has (9, (mm_x j).2.1.1, 0, 0)
  && (decide ((mm_x j).1.2.2.2 = if (mm_x j).2.1.2.2 = 0 then none else if (mm_x j).2.1.2.2 = 1 then some .int else some .boolean) && (mm_ctr j == decide ((mm_x j).1.1.name = "<init>")
  && (mm_sta j || (mm_ctr j || (mm_has (8, j, 0, 0) || mm_prv j)))))))))))))
theorem mm_kd0 : (List.range 48).all (fun i => mm_bad (0 + i) || (Nat.ble 287 (0 + i) || mm_kd (0 + i))) = true := by decide +kernel
theorem mm_kd1 : (List.range 48).all (fun i => mm_bad (48 + i) || (Nat.ble 287 (48 + i) || mm_kd (48 + i))) = true := by decide +kernel
theorem mm_kd2 : (List.range 48).all (fun i => mm_bad (96 + i) || (Nat.ble 287 (96 + i) || mm_kd (96 + i))) = true := by decide +kernel
theorem mm_kd3 : (List.range 48).all (fun i => mm_bad (144 + i) || (Nat.ble 287 (144 + i) || mm_kd (144 + i))) = true := by decide +kernel
theorem mm_kd4 : (List.range 48).all (fun i => mm_bad (192 + i) || (Nat.ble 287 (192 + i) || mm_kd (192 + i))) = true := by decide +kernel
theorem mm_kd5 : (List.range 48).all (fun i => mm_bad (240 + i) || (Nat.ble 287 (240 + i) || mm_kd (240 + i))) = true := by decide +kernel
theorem mm_kd_at {j : Nat} (h : j < 287) (h2 : mm_bad j = false) : mm_kd j = true := by
  have key : ∀ b, (List.range 48).all (fun i => mm_bad (b + i) || (Nat.ble 287 (b + i) || mm_kd (b + i))) = true → b ≤ j → j < b + 48 → mm_kd j = true := by
    intro b hb h3 h4
    have h5 := List.all_eq_true.mp hb (j - b) (List.mem_range.mpr (by omega))
    rw [show b + (j - b) = j by omega, Bool.or_eq_true, Bool.or_eq_true] at h5
    rcases h5 with h5 | h5 | h5
    · rw [h2] at h5; cases h5
    · exact absurd (Nat.le_of_ble_eq_true h5) (by omega)
    · exact h5
  rcases Nat.lt_or_ge j 48 with q | q
  · exact key 0 mm_kd0 (by omega) (by omega)
  rcases Nat.lt_or_ge j 96 with q | q
  · exact key 48 mm_kd1 (by omega) (by omega)
  rcases Nat.lt_or_ge j 144 with q | q
  · exact key 96 mm_kd2 (by omega) (by omega)
  rcases Nat.lt_or_ge j 192 with q | q
  · exact key 144 mm_kd3 (by omega) (by omega)
  rcases Nat.lt_or_ge j 240 with q | q
  · exact key 192 mm_kd4 (by omega) (by omega)
  · exact key 240 mm_kd5 (by omega) (by omega)
