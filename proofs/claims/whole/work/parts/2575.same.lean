/-! THE PURE CLAIM -/
/-- the state behind the constructors -/
def ct_S : mm_S := (((fun a k => if k = 11 ∧ (a = 3 ∨ a = 14 ∨ a = 25) then 165 else if (k = 13 ∧ a = 0) ∨ (k = 34 ∧ a = 101) then -1 else 0), fun _ _ => 0), ((fun a => if a = 102 then (fun i => if i = 1 then 165 else 0) else fun _ => 0), fun _ _ => 0))
theorem ct_bfe (B : Nat) : ct_bf B 40 12 = fun i => (([57, 60, 63, 66, 69, 72, 75, 78, 81, 84, 87, 90] : List Nat)[i]?).map (mm_ad B) := by
  funext i
  by_cases q : i < 12
  · rcases (by omega : i = 0 ∨ i = 1 ∨ i = 2 ∨ i = 3 ∨ i = 4 ∨ i = 5 ∨ i = 6 ∨ i = 7 ∨ i = 8 ∨ i = 9 ∨ i = 10 ∨ i = 11) with r | r | r | r | r | r | r | r | r | r | r | r <;> subst r <;> rfl
  · have e : (([57, 60, 63, 66, 69, 72, 75, 78, 81, 84, 87, 90] : List Nat)[i]?) = none := List.getElem?_eq_none (by show 12 ≤ i; omega)
    rw [e]
    simp only [ct_bf, va_up]
    rw [if_neg (by omega), if_neg (by omega), if_neg (by omega), if_neg (by omega), if_neg (by omega), if_neg (by omega), if_neg (by omega), if_neg (by omega), if_neg (by omega), if_neg (by omega), if_neg (by omega), if_neg (by omega)]
    rfl
theorem ct_ue : upd (fun _ => 0) 1 (mm_i 165) = fun i : Nat => mm_i (ct_S.A 102 (i : Int)) := by
  funext i
  show (if i = 1 then mm_i 165 else 0) = mm_i (if (i : Int) = 1 then 165 else 0)
  by_cases q : i = 1
  · rw [if_pos q, if_pos (by omega)]
  · rw [if_neg q, if_neg (by omega)]
    rfl
/-- all cells -/
def ct_all (B : Nat) : List mm_C := ct_ps B ++ ct_mod B 101 ++ [ct_J 1]
theorem ct_best_e (B : Nat) : ct_best B 40 = ct_bo B 40 :: (ct_R 12 (fun i => (([57, 60, 63, 66, 69, 72, 75, 78, 81, 84, 87, 90] : List Nat)[i]?).map (mm_ad B)) :: (ct_bR B 40 ++ ct_bk B 40 12)) := by
  unfold ct_best
  rw [ct_bfe]
set_option maxRecDepth 20000 in
set_option maxHeartbeats 4000000 in
theorem ct_same (B : Nat) : (ct_all B).map some = (List.range 124).map (pp_cell B ct_S) := by
  unfold ct_all ct_ps ct_mod
  rw [ct_best_e, ct_ue]
  rfl
