/-! THE START: Best, PromisedStock -/
/-- a part of an object made behind it -/
theorem ct_in {E : mm_E} {d B J : Nat} {as : List Value} {x : mm_C} {cells : Nat → List mm_C} {f : Nat × Nat → Nat × Nat} (h : ∀ (L : List mm_C) (c : Nat × Nat), mm_ev E d J (.ref (B + L.length) :: as) (ct_h B (L ++ [x]) c) = mm_oV (ct_h B (L ++ cells L.length) (f c))) (L : List mm_C) (o : mm_C) (R : List mm_C) (c : Nat × Nat) : mm_ev E d J (.ref (B + (L.length + (R.length + 1))) :: as) (ct_h B (L ++ o :: (R ++ [x])) c) = mm_oV (ct_h B (L ++ o :: (R ++ cells (L.length + (R.length + 1)))) (f c)) := by
  have z := h (L ++ o :: R) c
  rw [List.length_append, List.length_cons, List.append_assoc, List.cons_append, List.append_assoc, List.cons_append] at z
  exact z
/-- a row of references -/
abbrev ct_R (n : Nat) (f : Nat → Option Nat) : mm_C := .inr (.inr (.inr (n, f)))
theorem ct_wR (B : Nat) (L : List mm_C) (o : mm_C) (R : List mm_C) (c : Nat × Nat) (n : Nat) (f : Nat → Option Nat) (i : Int) (q : Nat) (fs : List Value) (κ : mm_H → mm_R) (i0 : 0 ≤ i) (i1 : i < n) (hn : n ≤ 2147483647) (hq : (L ++ o :: (ct_R n f :: R))[q]? = some (.inl (5, fs))) : mm_wR (ct_h B (L ++ o :: (ct_R n f :: R)) c) (B + (L.length + 1)) (mm_i i) (B + q) κ = κ (ct_h B (L ++ o :: (ct_R n (va_up f i.toNat (some (B + q))) :: R)) c) := by
  have e : (L ++ o :: (ct_R n f :: R))[L.length + 1]? = some (ct_R n f) := by
    rw [List.getElem?_append_right (by omega), show L.length + 1 - L.length = 1 by omega]
    rfl
  have e2 : (L ++ o :: (ct_R n f :: R)).set (L.length + 1) (ct_R n (va_up f i.toNat (some (B + q)))) = L ++ o :: (ct_R n (va_up f i.toNat (some (B + q))) :: R) := by
    rw [List.set_append_right _ _ (by omega), show L.length + 1 - L.length = 1 by omega]
    rfl
  unfold mm_wR
  rw [ct_at, e]
  show (match (ct_h B (L ++ o :: (ct_R n f :: R)) c).1 (B + q) with
    | some (.inl (ci, _)) => if (mm_i i < 0 ∨ n ≤ (mm_i i).toNatClampNeg) ∨ ¬ ci = 5 then none else κ (mm_up (ct_h B (L ++ o :: (ct_R n f :: R)) c) (B + (L.length + 1)) (.inr (.inr (.inr (n, va_up f (mm_i i).toNatClampNeg (some (B + q)))))))
    | _ => none) = _
  rw [ct_at, hq]
  show (if (mm_i i < 0 ∨ n ≤ (mm_i i).toNatClampNeg) ∨ ¬ (5 : Nat) = 5 then none else κ (mm_up (ct_h B (L ++ o :: (ct_R n f :: R)) c) (B + (L.length + 1)) (ct_R n (va_up f (mm_i i).toNatClampNeg (some (B + q)))))) = _
  rw [if_neg (by
    rintro (z | z)
    · exact mm_ix i0 i1 hn z
    · exact z rfl), mm_i_nat i0 (by omega), ct_up (ct_lt e), e2]
def ct_bo (B p : Nat) : mm_C := .inl (1, [.ref (B + (p + 1)), .ref (B + (p + 2)), .ref (B + (p + 5)), .ref (B + (p + 8)), .ref (B + (p + 11)), .ref (B + (p + 14)), .ref (B + (p + 15)), .ref (B + (p + 16)), .long (mm_j 0), .long (mm_j 0)])
def ct_bR (B p : Nat) : List mm_C := ct_row B 120 (p + 2) ++ ct_row B 120 (p + 5) ++ ct_row B 120 (p + 8) ++ ct_row B 1 (p + 11) ++ [ct_J 120, ct_I 12, ct_I 12]
/-- k of its Rows made -/
def ct_bf (B p : Nat) : Nat → Nat → Option Nat
  | 0 => fun _ => none
  | k + 1 => va_up (ct_bf B p k) k (some (B + (p + 17 + 3 * k)))
def ct_bk (B p : Nat) : Nat → List mm_C
  | 0 => []
  | k + 1 => ct_bk B p k ++ ct_row B 120 (p + 17 + 3 * k)
def ct_bc (c : Nat × Nat) : Nat → Nat × Nat
  | 0 => c
  | k + 1 => ((ct_bc c k).1 + 1 + 1 + 1, (ct_bc c k).2 + 2 + 120 + 120)
theorem ct_bl (B p : Nat) : ∀ k, (ct_bR B p ++ ct_bk B p k).length = 15 + 3 * k
  | 0 => rfl
  | k + 1 => by
    have z := ct_bl B p k
    rw [ct_bk, ← List.append_assoc, List.length_append, z]
    show 15 + 3 * k + 3 = _
    omega
section
variable {E : mm_E} {d B : Nat} {L : List mm_C} {c : Nat × Nat}
theorem ct_b1 (hd : 1 ≤ d) (n k : Nat) (hk : k < 12) : mm_r4_100 E (mm_ev E d) (n + 1) (B + L.length) (mm_i (k : Int)) (ct_h B (L ++ ct_bo B L.length :: (ct_R 12 (ct_bf B L.length k) :: (ct_bR B L.length ++ ct_bk B L.length k))) (ct_bc c k)) = mm_r4_100 E (mm_ev E d) n (B + L.length) (mm_i ((k + 1 : Nat) : Int)) (ct_h B (L ++ ct_bo B L.length :: (ct_R 12 (ct_bf B L.length (k + 1)) :: (ct_bR B L.length ++ ct_bk B L.length (k + 1)))) (ct_bc c (k + 1))) := by
  have l := ct_bl B L.length k
  have l2 : L.length + ((ct_R 12 (ct_bf B L.length k) :: (ct_bR B L.length ++ ct_bk B L.length k)).length + 1) = L.length + 17 + 3 * k := by
    rw [List.length_cons, l]
    omega
  have e1 := ct_in (E := E) (d := d) (B := B) (J := 75) (as := [.int (mm_i 120)]) (x := .inl (5, mm_new.getD 5 [])) (cells := fun p => ct_row B 120 p) (f := fun c => (c.1 + 1 + 1, c.2 + 120 + 120)) (fun L c => ct_c75 hd (n := 120) (by omega) (by omega)) L (ct_bo B L.length) (ct_R 12 (ct_bf B L.length k) :: (ct_bR B L.length ++ ct_bk B L.length k)) ((ct_bc c k).1 + 1, (ct_bc c k).2 + (mm_new.getD 5 []).length)
  rw [l2] at e1
  rw [mm_e4_100, mm_br_le (by omega) (by omega) (by omega) (by omega), if_neg (by omega)]
  unfold ct_bo
  rw [ct_gR B L _ _ 1 0 (B + (L.length + 1)) _ _ rfl, ct_alR, l2]
  unfold ct_bo at e1
  rw [e1, mm_cV_ok]
  rw [List.cons_append, ct_wR B L _ _ _ 12 _ (k : Int) (L.length + 17 + 3 * k) [.ref (B + (L.length + 17 + 3 * k + 1)), .ref (B + (L.length + 17 + 3 * k + 2))] _ (by omega) (by omega) (by omega) (by
    rw [List.getElem?_append_right (by omega), show L.length + 17 + 3 * k - L.length = 15 + 3 * k + 1 + 1 by omega, List.getElem?_cons_succ, List.getElem?_cons_succ, List.getElem?_append_right (by rw [l]; omega), l, Nat.sub_self]
    rfl), Int.toNat_natCast, List.append_assoc]
  simp only [mm_hm]
  rfl
theorem ct_bL (hd : 1 ≤ d) : ∀ (j k n : Nat), k + j = 12 → j < n → mm_r4_100 E (mm_ev E d) n (B + L.length) (mm_i (k : Int)) (ct_h B (L ++ ct_bo B L.length :: (ct_R 12 (ct_bf B L.length k) :: (ct_bR B L.length ++ ct_bk B L.length k))) (ct_bc c k)) = mm_oV (ct_h B (L ++ ct_bo B L.length :: (ct_R 12 (ct_bf B L.length 12) :: (ct_bR B L.length ++ ct_bk B L.length 12))) (ct_bc c 12))
  | 0, k, n, hk, hn => by
    obtain ⟨n, rfl⟩ : ∃ m, n = m + 1 := ⟨n - 1, by omega⟩
    obtain rfl : k = 12 := by omega
    rw [mm_e4_100, mm_br_le (by omega) (by omega) (by omega) (by omega), if_pos (by omega)]
  | j + 1, k, n, hk, hn => by
    obtain ⟨n, rfl⟩ : ∃ m, n = m + 1 := ⟨n - 1, by omega⟩
    rw [ct_b1 hd n k (by omega)]
    exact ct_bL hd j (k + 1) n (by omega) (by omega)
def ct_best (B p : Nat) : List mm_C := ct_bo B p :: (ct_R 12 (ct_bf B p 12) :: (ct_bR B p ++ ct_bk B p 12))
def ct_b0 (c : Nat × Nat) : Nat × Nat := (c.1 + 1 + 1 + 1 + 1 + 1 + 1 + 1 + 1 + 1 + 1 + 1 + 1 + 1 + 1 + 1 + 1, c.2 + 12 + 2 + 120 + 120 + 2 + 120 + 120 + 2 + 120 + 120 + 2 + 1 + 1 + 120 + 12 + 12)
theorem ct_c4 (hd : 2 ≤ d) : mm_ev E d 4 [.ref (B + L.length)] (ct_h B (L ++ [.inl (1, [.null, .null, .null, .null, .null, .null, .null, .null, .long 0, .long 0])]) c) = mm_oV (ct_h B (L ++ ct_best B L.length) (ct_bc (ct_b0 c) 12)) := by
  refine mm_ev_go (by omega) (ct_rok rfl) rfl (fun F e hF he => ?_)
  show mm_r4_0 E (mm_ev E e) (F + 100) (B + L.length) _ = _
  have R120 := ct_in (E := E) (d := e) (B := B) (J := 75) (as := [.int (mm_i 120)]) (x := .inl (5, mm_new.getD 5 [])) (cells := fun p => ct_row B 120 p) (f := fun c => (c.1 + 1 + 1, c.2 + 120 + 120)) (fun L c => ct_c75 (by omega) (n := 120) (by omega) (by omega))
  have R1 := ct_in (E := E) (d := e) (B := B) (J := 75) (as := [.int (mm_i 1)]) (x := .inl (5, mm_new.getD 5 [])) (cells := fun p => ct_row B 1 p) (f := fun c => (c.1 + 1 + 1, c.2 + 1 + 1)) (fun L c => ct_c75 (by omega) (n := 1) (by omega) (by omega))
  rw [mm_e4_0, ct_nn (by omega) (by omega), ct_alR, ct_pF _ _ _ _ _ _ _ _ _ rfl, ct_alR, R120, mm_cV_ok, ct_pF _ _ _ _ _ _ _ _ _ rfl, ct_alR, R120, mm_cV_ok, ct_pF _ _ _ _ _ _ _ _ _ rfl]
  rw [mm_e4_39, ct_alR, R120, mm_cV_ok, ct_pF _ _ _ _ _ _ _ _ _ rfl, ct_alR, R1, mm_cV_ok, ct_pF _ _ _ _ _ _ _ _ _ rfl, ct_nn (by omega) (by omega), ct_alR, ct_pF _ _ _ _ _ _ _ _ _ rfl, ct_nn (by omega) (by omega), ct_alR, ct_pF _ _ _ _ _ _ _ _ _ rfl]
  rw [mm_e4_80, ct_nn (by omega) (by omega), ct_alR, ct_pF _ _ _ _ _ _ _ _ _ rfl, ct_pF _ _ _ _ _ _ _ _ _ rfl, ct_pF _ _ _ _ _ _ _ _ _ rfl]
  have z := ct_bL (E := E) (d := e) (B := B) (L := L) (c := ct_b0 c) (by omega) 12 0 (F + 97) (by omega) (by omega)
  exact z
end
