/-! THE START: cells in a row -/
/-- what the pure part may take of the start -/
def mm_OKE (E : mm_E) : Prop := (∀ i, i < 56 → E.2.2.2 (E.2.2.1 i) = some (mm_tx.getD i [])) ∧ (E.2.1 = E.1.1 → E.1.2.1 = 7 ∧ ∀ j, j < 7 → E.1.2.2 j = mm_most.getD j 0)
def mm_h0 (n : Nat) : mm_H := (fun _ => none, (some n, (0, 0)))
/-- THE PURE CLAIM -/
def mm_PU : Prop := ∀ (E : mm_E) (n0 : Nat), mm_OKE E → E.1.2.1 ≤ 3072 → E.1.1 < n0 → E.2.1 < n0 → ∃ (n : Nat) (hf : mm_H), mm_run E (lw_cl E) mm_m282 n 0 (mm_ent [.ref E.1.1] 7) [] (mm_h0 n0) = some (.inl (some (.int 1)), hf) ∧ hf.2.2.1 ≤ 601024 ∧ hf.2.2.2 ≤ 7293034
def ct_h (B : Nat) (L : List mm_C) (c : Nat × Nat) : mm_H := ((fun x => if x < B then none else L[x - B]?), (some (B + L.length), c))
theorem ct_at (B : Nat) (L : List mm_C) (c : Nat × Nat) (a : Nat) : (ct_h B L c).1 (B + a) = L[a]? := by
  show (if B + a < B then none else L[B + a - B]?) = _
  rw [if_neg (by omega), Nat.add_sub_cancel_left]
theorem ct_0 (B : Nat) : mm_h0 B = ct_h B [] (0, 0) := by
  unfold mm_h0 ct_h
  refine Prod.ext ?_ rfl
  funext x
  show none = if x < B then none else ([] : List mm_C)[x - B]?
  by_cases q : x < B
  · rw [if_pos q]
  · rw [if_neg q]; rfl
theorem ct_al (B : Nat) (L : List mm_C) (c : Nat × Nat) (ce : mm_C) (sl : Nat) (κ : Nat → mm_H → mm_R) : mm_al (ct_h B L c) ce sl κ = κ (B + L.length) (ct_h B (L ++ [ce]) (c.1 + 1, c.2 + sl)) := by
  have e : ((va_up (ct_h B L c).1 (B + L.length) (some ce), (some (B + L.length + 1), (c.1 + 1, c.2 + sl))) : mm_H) = ct_h B (L ++ [ce]) (c.1 + 1, c.2 + sl) := by
    unfold ct_h
    refine Prod.ext ?_ ?_
    · funext x
      show (if x = B + L.length then some ce else if x < B then none else L[x - B]?) = if x < B then none else (L ++ [ce])[x - B]?
      by_cases q : x = B + L.length
      · rw [if_pos q, if_neg (by omega), q, Nat.add_sub_cancel_left, List.getElem?_append_right (Nat.le_refl _), Nat.sub_self]
        rfl
      · rw [if_neg q]
        by_cases b : x < B
        · rw [if_pos b, if_pos b]
        · rw [if_neg b, if_neg b]
          by_cases l : x - B < L.length
          · rw [List.getElem?_append_left l]
          · rw [List.getElem?_eq_none (by omega), List.getElem?_eq_none (by rw [List.length_append, List.length_singleton]; omega)]
    · show (some (B + L.length + 1), (c.1 + 1, c.2 + sl)) = (some (B + (L ++ [ce]).length), (c.1 + 1, c.2 + sl))
      rw [List.length_append, List.length_singleton, Nat.add_assoc]
  rw [← e]
  rfl
theorem ct_up {B : Nat} {L : List mm_C} {c : Nat × Nat} {a : Nat} {ce : mm_C} (h : a < L.length) : mm_up (ct_h B L c) (B + a) ce = ct_h B (L.set a ce) c := by
  unfold mm_up ct_h
  refine Prod.ext ?_ ?_
  · funext x
    show (if x = B + a then some ce else if x < B then none else L[x - B]?) = if x < B then none else (L.set a ce)[x - B]?
    by_cases q : x = B + a
    · rw [if_pos q, if_neg (by omega), q, Nat.add_sub_cancel_left, List.getElem?_set_self h]
    · rw [if_neg q]
      by_cases b : x < B
      · rw [if_pos b, if_pos b]
      · rw [if_neg b, if_neg b, List.getElem?_set_ne (by omega)]
  · show (some (B + L.length), c) = (some (B + (L.set a ce).length), c)
    rw [List.length_set]
theorem ct_lt {L : List mm_C} {a : Nat} {ce : mm_C} (h : L[a]? = some ce) : a < L.length := by
  obtain ⟨z, -⟩ := List.getElem?_eq_some_iff.mp h
  exact z
/-- an object ahead of what it makes -/
theorem ct_pF (B : Nat) (L R : List mm_C) (c : Nat × Nat) (ci k : Nat) (fs : List Value) (v : Value) (κ : mm_H → mm_R) (hk : Nat.ble (k + 1) fs.length = true) : mm_pF (ct_h B (L ++ Sum.inl (ci, fs) :: R) c) (B + L.length) ci k v κ = κ (ct_h B (L ++ Sum.inl (ci, fs.set k v) :: R) c) := by
  have e : (L ++ Sum.inl (ci, fs) :: R)[L.length]? = some (Sum.inl (ci, fs)) := by
    rw [List.getElem?_append_right (Nat.le_refl _), Nat.sub_self]
    rfl
  have e2 : (L ++ Sum.inl (ci, fs) :: R).set L.length (Sum.inl (ci, fs.set k v)) = L ++ Sum.inl (ci, fs.set k v) :: R := by
    rw [List.set_append_right _ _ (Nat.le_refl _), Nat.sub_self]
    rfl
  unfold mm_pF
  rw [ct_at, e]
  show (bif Nat.beq ci ci && Nat.ble (k + 1) fs.length then κ (mm_up (ct_h B (L ++ Sum.inl (ci, fs) :: R) c) (B + L.length) (.inl (ci, fs.set k v))) else none) = _
  rw [Nat.beq_refl, hk, ct_up (ct_lt e), e2]
  rfl
theorem ct_gR (B : Nat) (L R : List mm_C) (c : Nat × Nat) (ci k r : Nat) (fs : List Value) (κ : Nat → mm_R) (hk : fs[k]? = some (.ref r)) : mm_gR (ct_h B (L ++ Sum.inl (ci, fs) :: R) c) (B + L.length) ci k κ = κ r := by
  have e : (L ++ Sum.inl (ci, fs) :: R)[L.length]? = some (Sum.inl (ci, fs)) := by
    rw [List.getElem?_append_right (Nat.le_refl _), Nat.sub_self]
    rfl
  unfold mm_gR
  rw [ct_at, e]
  show (match fs[k]? with
    | some (.ref v) => bif Nat.beq ci ci then κ v else none
    | _ => none) = _
  rw [hk]
  show (bif Nat.beq ci ci then κ r else none) = _
  rw [Nat.beq_refl]
  rfl
theorem ct_nn {v : Int} {κ : Nat → mm_R} (h0 : 0 ≤ v) (h1 : v ≤ 100000) : mm_nn (mm_i v) κ = κ v.toNat := by
  unfold mm_nn
  rw [mm_i_nat h0 (by omega), mm_br_f]
  rintro (z | z)
  · exact mm_i_lt0 h0 (by omega) z
  · omega
theorem ct_rok {B : Nat} {L R : List mm_C} {c : Nat × Nat} {j ci : Nat} {fs : List Value} {as : List Value} (hj : Nat.beq ci (mm_x j).2.1.1 = true) : mm_rok j (.ref (B + L.length) :: as) (ct_h B (L ++ Sum.inl (ci, fs) :: R) c) = true := by
  have e : (L ++ Sum.inl (ci, fs) :: R)[L.length]? = some (Sum.inl (ci, fs)) := by
    rw [List.getElem?_append_right (Nat.le_refl _), Nat.sub_self]
    rfl
  unfold mm_rok
  cases mm_sta j with
  | true => rfl
  | false =>
    show (match (ct_h B (L ++ Sum.inl (ci, fs) :: R) c).1 (B + L.length) with
    | some (.inl (ci, _)) => Nat.beq ci (mm_x j).2.1.1
    | _ => false) = true
    rw [ct_at, e]
    exact hj
/-- what is made behind an object -/
theorem ct_alR (B : Nat) (L : List mm_C) (o : mm_C) (R : List mm_C) (c : Nat × Nat) (ce : mm_C) (sl : Nat) (κ : Nat → mm_H → mm_R) : mm_al (ct_h B (L ++ o :: R) c) ce sl κ = κ (B + (L.length + (R.length + 1))) (ct_h B (L ++ o :: (R ++ [ce])) (c.1 + 1, c.2 + sl)) := by
  rw [ct_al, List.length_append, List.length_cons, List.append_assoc, List.cons_append]
abbrev ct_I (n : Nat) : mm_C := .inr (.inl (n, fun _ => 0))
abbrev ct_J (n : Nat) : mm_C := .inr (.inr (.inl (n, fun _ => 0)))
def ct_row (B n p : Nat) : List mm_C := [.inl (5, [.ref (B + (p + 1)), .ref (B + (p + 2))]), ct_J n, ct_J n]
def ct_act (B p : Nat) : List mm_C := [.inl (0, [.ref (B + (p + 1)), .ref (B + (p + 2)), .ref (B + (p + 3)), .int (mm_i 0), .int (mm_i 0)]), ct_I 20, ct_I 20, ct_I 20]
def ct_led (B p : Nat) : List mm_C := [.inl (2, [.ref (B + (p + 1)), .ref (B + (p + 2)), .int (mm_i 0), .int (mm_i 0), .int (mm_i 0)]), ct_I 41, ct_I 41]
def ct_net (B p : Nat) : List mm_C := [.inl (3, [.ref (B + (p + 1)), .ref (B + (p + 2)), .ref (B + (p + 3)), .ref (B + (p + 4)), .ref (B + (p + 5)), .ref (B + (p + 6)), .ref (B + (p + 7)), .ref (B + (p + 8)), .ref (B + (p + 9)), .ref (B + (p + 10)), .int (mm_i 0), .int (mm_i 165), .int (mm_i 0)]), ct_I 84, ct_I 72, ct_I 12, ct_I 12, ct_I 12, ct_I 480, ct_I 12, ct_I 12, ct_I 12, ct_I 12]
def ct_que (B a1 a2 p : Nat) : List mm_C := [.inl (4, [.ref a1, .ref a2, .ref (B + (p + 1)), .ref (B + (p + 2)), .int (mm_i 0), .int (mm_i 0), .int (mm_i 0)]), ct_I 200, ct_I 64]
def ct_tel (a1 a2 : Nat) : List mm_C := [.inl (6, [.ref a1, .ref a2, .int (mm_i 0)])]
def ct_tok (B p : Nat) : List mm_C := [.inl (7, [.ref (B + (p + 1)), .int (mm_i 0), .int (mm_i 0), .int (mm_i 0), .int (mm_i 0), .int (mm_i 0)]), ct_I 400]
section
variable {E : mm_E} {d B : Nat} {L : List mm_C} {c : Nat × Nat}
theorem ct_c75 (hd : 1 ≤ d) {n : Int} (h0 : 0 ≤ n) (h1 : n ≤ 1000) : mm_ev E d 75 [.ref (B + L.length), .int (mm_i n)] (ct_h B (L ++ [.inl (5, [.null, .null])]) c) = mm_oV (ct_h B (L ++ ct_row B n.toNat L.length) (c.1 + 1 + 1, c.2 + n.toNat + n.toNat)) := by
  refine mm_ev_go hd (ct_rok rfl) rfl (fun F e hF he => ?_)
  show mm_r75_0 E (mm_ev E e) (F + 100) (B + L.length) (mm_i n) _ = _
  rw [mm_e75_0, ct_nn h0 (by omega), ct_alR, ct_pF _ _ _ _ _ _ _ _ _ rfl, ct_nn h0 (by omega), ct_alR, ct_pF _ _ _ _ _ _ _ _ _ rfl]
  unfold ct_row
  rfl
theorem ct_c0 (hd : 1 ≤ d) : mm_ev E d 0 [.ref (B + L.length)] (ct_h B (L ++ [.inl (0, [.null, .null, .null, .int 0, .int 0])]) c) = mm_oV (ct_h B (L ++ ct_act B L.length) (c.1 + 1 + 1 + 1, c.2 + 20 + 20 + 20)) := by
  refine mm_ev_go hd (ct_rok rfl) rfl (fun F e hF he => ?_)
  show mm_r0_0 E (mm_ev E e) (F + 100) (B + L.length) _ = _
  rw [mm_e0_0, ct_nn (by omega) (by omega), ct_alR, ct_pF _ _ _ _ _ _ _ _ _ rfl, ct_nn (by omega) (by omega), ct_alR, ct_pF _ _ _ _ _ _ _ _ _ rfl, ct_nn (by omega) (by omega), ct_alR, ct_pF _ _ _ _ _ _ _ _ _ rfl, ct_pF _ _ _ _ _ _ _ _ _ rfl, ct_pF _ _ _ _ _ _ _ _ _ rfl]
  rfl
theorem ct_c19 (hd : 1 ≤ d) : mm_ev E d 19 [.ref (B + L.length)] (ct_h B (L ++ [.inl (2, [.null, .null, .int 0, .int 0, .int 0])]) c) = mm_oV (ct_h B (L ++ ct_led B L.length) (c.1 + 1 + 1, c.2 + 41 + 41)) := by
  refine mm_ev_go hd (ct_rok rfl) rfl (fun F e hF he => ?_)
  show mm_r19_0 E (mm_ev E e) (F + 100) (B + L.length) _ = _
  rw [mm_e19_0, ct_nn (by omega) (by omega), ct_alR, ct_pF _ _ _ _ _ _ _ _ _ rfl, ct_nn (by omega) (by omega), ct_alR, ct_pF _ _ _ _ _ _ _ _ _ rfl, ct_pF _ _ _ _ _ _ _ _ _ rfl, ct_pF _ _ _ _ _ _ _ _ _ rfl, ct_pF _ _ _ _ _ _ _ _ _ rfl]
  rfl
theorem ct_c29 (hd : 1 ≤ d) : mm_ev E d 29 [.ref (B + L.length)] (ct_h B (L ++ [.inl (3, [.null, .null, .null, .null, .null, .null, .null, .null, .null, .null, .int 0, .int 0, .int 0])]) c) = mm_oV (ct_h B (L ++ ct_net B L.length) (c.1 + 1 + 1 + 1 + 1 + 1 + 1 + 1 + 1 + 1 + 1, c.2 + 84 + 72 + 12 + 12 + 12 + 480 + 12 + 12 + 12 + 12)) := by
  refine mm_ev_go hd (ct_rok rfl) rfl (fun F e hF he => ?_)
  show mm_r29_0 E (mm_ev E e) (F + 100) (B + L.length) _ = _
  rw [mm_e29_0, ct_nn (by omega) (by omega), ct_alR, ct_pF _ _ _ _ _ _ _ _ _ rfl, ct_nn (by omega) (by omega), ct_alR, ct_pF _ _ _ _ _ _ _ _ _ rfl, ct_nn (by omega) (by omega), ct_alR, ct_pF _ _ _ _ _ _ _ _ _ rfl, ct_nn (by omega) (by omega), ct_alR, ct_pF _ _ _ _ _ _ _ _ _ rfl, ct_nn (by omega) (by omega), ct_alR, ct_pF _ _ _ _ _ _ _ _ _ rfl]
  rw [mm_e29_44, ct_nn (by omega) (by omega), ct_alR, ct_pF _ _ _ _ _ _ _ _ _ rfl, ct_nn (by omega) (by omega), ct_alR, ct_pF _ _ _ _ _ _ _ _ _ rfl, ct_nn (by omega) (by omega), ct_alR, ct_pF _ _ _ _ _ _ _ _ _ rfl, ct_nn (by omega) (by omega), ct_alR, ct_pF _ _ _ _ _ _ _ _ _ rfl, ct_nn (by omega) (by omega), ct_alR, ct_pF _ _ _ _ _ _ _ _ _ rfl]
  rw [mm_e29_85, ct_pF _ _ _ _ _ _ _ _ _ rfl, ct_pF _ _ _ _ _ _ _ _ _ rfl, ct_pF _ _ _ _ _ _ _ _ _ rfl]
  rfl
theorem ct_c62 (hd : 1 ≤ d) (a1 a2 : Nat) : mm_ev E d 62 [.ref (B + L.length), .ref a1, .ref a2] (ct_h B (L ++ [.inl (4, [.null, .null, .null, .null, .int 0, .int 0, .int 0])]) c) = mm_oV (ct_h B (L ++ ct_que B a1 a2 L.length) (c.1 + 1 + 1, c.2 + 200 + 64)) := by
  refine mm_ev_go hd (ct_rok rfl) rfl (fun F e hF he => ?_)
  show mm_r62_0 E (mm_ev E e) (F + 100) (B + L.length) a1 a2 _ = _
  rw [mm_e62_0, ct_nn (by omega) (by omega), ct_alR, ct_pF _ _ _ _ _ _ _ _ _ rfl, ct_nn (by omega) (by omega), ct_alR, ct_pF _ _ _ _ _ _ _ _ _ rfl, ct_pF _ _ _ _ _ _ _ _ _ rfl, ct_pF _ _ _ _ _ _ _ _ _ rfl, ct_pF _ _ _ _ _ _ _ _ _ rfl, ct_pF _ _ _ _ _ _ _ _ _ rfl, mm_e62_41, ct_pF _ _ _ _ _ _ _ _ _ rfl]
  rfl
theorem ct_c78 (hd : 1 ≤ d) (a1 a2 : Nat) : mm_ev E d 78 [.ref (B + L.length), .ref a1, .ref a2] (ct_h B (L ++ [.inl (6, [.null, .null, .int 0])]) c) = mm_oV (ct_h B (L ++ ct_tel a1 a2) c) := by
  refine mm_ev_go hd (ct_rok rfl) rfl (fun F e hF he => ?_)
  show mm_r78_0 E (mm_ev E e) (F + 100) (B + L.length) a1 a2 _ = _
  rw [mm_e78_0, ct_pF _ _ _ _ _ _ _ _ _ rfl, ct_pF _ _ _ _ _ _ _ _ _ rfl, ct_pF _ _ _ _ _ _ _ _ _ rfl]
  rfl
theorem ct_c92 (hd : 1 ≤ d) : mm_ev E d 92 [.ref (B + L.length)] (ct_h B (L ++ [.inl (7, [.null, .int 0, .int 0, .int 0, .int 0, .int 0])]) c) = mm_oV (ct_h B (L ++ ct_tok B L.length) (c.1 + 1, c.2 + 400)) := by
  refine mm_ev_go hd (ct_rok rfl) rfl (fun F e hF he => ?_)
  show mm_r92_0 E (mm_ev E e) (F + 100) (B + L.length) _ = _
  rw [mm_e92_0, ct_nn (by omega) (by omega), ct_alR, ct_pF _ _ _ _ _ _ _ _ _ rfl, ct_pF _ _ _ _ _ _ _ _ _ rfl, ct_pF _ _ _ _ _ _ _ _ _ rfl, ct_pF _ _ _ _ _ _ _ _ _ rfl, ct_pF _ _ _ _ _ _ _ _ _ rfl, ct_pF _ _ _ _ _ _ _ _ _ rfl]
  rfl
end
