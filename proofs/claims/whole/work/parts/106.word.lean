/-! WORDS -/
/-- the text of a constant, as whole numbers -/
def pp_tx (i : Nat) : List Int := (mm_tx.getD i []).map Int32.toInt
theorem pp_tx_len : ∀ i, i < 56 → (mm_tx.getD i []).length < 1000 := by decide +kernel
theorem pp_tx_r : ∀ i, i < 56 → (pp_tx i).all (fun v => decide (0 ≤ v ∧ v ≤ 255)) = true := by decide +kernel
theorem pp_tx_at (i k : Nat) : (mm_tx.getD i []).getD k 0 = mm_i ((pp_tx i).getD k 0) := by
  unfold pp_tx
  generalize mm_tx.getD i [] = L
  rw [List.getD_eq_getElem?_getD, List.getD_eq_getElem?_getD, List.getElem?_map]
  cases L[k]? with
  | none => rfl
  | some v => exact (mm_i_of v).symm
theorem pp_tx_length (i : Nat) : (pp_tx i).length = (mm_tx.getD i []).length := List.length_map _
theorem pp_tx_in {i k : Nat} (hi : i < 56) : 0 ≤ (pp_tx i).getD k 0 ∧ (pp_tx i).getD k 0 ≤ 255 := by
  rw [List.getD_eq_getElem?_getD]
  cases e : (pp_tx i)[k]? with
  | none => exact ⟨Int.le_refl 0, by decide⟩
  | some v => exact of_decide_eq_true (List.all_eq_true.mp (pp_tx_r i hi) v (List.mem_of_getElem? e))
/-- the place of a word in a list of words, each with a blank behind it -/
def pp_am (t : Int → Int) (b e : Int) : List Int → Int → Int → Bool → Int
  | [], _, _, _ => -1
  | x :: r, pl, p, sm => if x = 32 then (if sm = true ∧ p = e then pl else pp_am t b e r (pl + 1) b true) else pp_am t b e r pl (p + 1) (sm && decide (p < e) && decide (t p = x))
/-- the signs from p on are these -/
def pp_ce (t : Int → Int) : Int → List Int → Bool
  | _, [] => true
  | p, x :: r => decide (t p = x) && pp_ce t (p + 1) r
/-- the token from b to e is this word -/
def pp_wd (t : Int → Int) (b e : Int) (w : List Int) : Bool := decide (e - b = w.length) && pp_ce t b w
theorem pp_am_w {t : Int → Int} {b e : Int} {r : List Int} : ∀ (w : List Int) (pl p : Int) (sm : Bool), (∀ x ∈ w, x ≠ 32) → pp_am t b e (w ++ 32 :: r) pl p sm = if (sm && pp_wd t p e w) = true then pl else pp_am t b e r (pl + 1) b true
  | [], pl, p, sm, _ => by
    show (if (32 : Int) = 32 then (if sm = true ∧ p = e then pl else pp_am t b e r (pl + 1) b true) else _) = _
    rw [if_pos rfl]
    have q : (sm = true ∧ p = e) ↔ (sm && pp_wd t p e []) = true := by
      unfold pp_wd pp_ce
      rw [Bool.and_true, Bool.and_eq_true]
      refine ⟨fun h => ⟨h.1, decide_eq_true (by rw [h.2]; simp)⟩, fun h => ⟨h.1, ?_⟩⟩
      have z := of_decide_eq_true h.2
      have z : e - p = 0 := z
      omega
    by_cases c : sm = true ∧ p = e
    · rw [if_pos c, if_pos (q.mp c)]
    · rw [if_neg c, if_neg (fun z => c (q.mpr z))]
  | x :: w, pl, p, sm, h => by
    show (if x = 32 then _ else pp_am t b e (w ++ 32 :: r) pl (p + 1) (sm && decide (p < e) && decide (t p = x))) = _
    rw [if_neg (h x List.mem_cons_self), pp_am_w w pl (p + 1) _ (fun y hy => h y (List.mem_cons_of_mem x hy))]
    have q : ((sm && decide (p < e) && decide (t p = x)) && pp_wd t (p + 1) e w) = (sm && pp_wd t p e (x :: w)) := by
      unfold pp_wd
      show ((sm && decide (p < e) && decide (t p = x)) && (decide (e - (p + 1) = w.length) && pp_ce t (p + 1) w)) = (sm && (decide (e - p = ((w.length + 1 : Nat) : Int)) && (decide (t p = x) && pp_ce t (p + 1) w)))
      by_cases c : e - p = ((w.length + 1 : Nat) : Int)
      · rw [decide_eq_true c, decide_eq_true (show p < e by omega), decide_eq_true (show e - (p + 1) = w.length by omega)]
        cases sm <;> simp
      · rw [decide_eq_false c, decide_eq_false (show ¬ e - (p + 1) = w.length by omega)]
        simp
    rw [q]
section WORD
variable {E : mm_E} {d B : Nat} {S : mm_S} {c : mm_N}
theorem pp_slE {i : Nat} (hE : pp_OE E B) (hi : i < 56) (κ : Int32 → mm_R) : mm_sl E (E.2.2.1 i) κ = κ (mm_i ((pp_tx i).length : Nat)) := by
  unfold mm_sl
  rw [hE.2.2.2 i hi, pp_tx_length]
  show κ (Int32.ofNat _) = _
  rw [mm_i_cast]
  rfl
theorem pp_saE {i : Nat} {k : Int} (hE : pp_OE E B) (hi : i < 56) (h0 : 0 ≤ k) (h1 : k < (pp_tx i).length) (κ : Int32 → mm_R) : mm_sa E (E.2.2.1 i) (mm_i k) κ = κ (mm_i ((pp_tx i).getD k.toNat 0)) := by
  unfold mm_sa
  rw [hE.2.2.2 i hi]
  have l := pp_tx_len i hi
  rw [pp_tx_length] at h1
  show (if mm_i k < 0 ∨ (mm_tx.getD i []).length ≤ (mm_i k).toNatClampNeg then none else κ ((mm_tx.getD i []).getD (mm_i k).toNatClampNeg 0)) = _
  rw [if_neg (mm_ix h0 h1 (by omega)), mm_i_nat h0 (by omega), pp_tx_at]
theorem l_among {i : Nat} (hE : pp_OE E B) (hi : i < 56) (hB : pp_by (S.A 2) (S.I 1 2)) (hn : S.I 1 2 ≤ 400) (h0 : 0 ≤ S.I 1 3) (h1 : S.I 1 3 ≤ S.I 1 4) (h2 : S.I 1 4 ≤ S.I 1 2) {cl : mm_F} : ∀ (j n : Nat) (k pl p : Int) (sm : Bool), 0 ≤ k → k + j = (pp_tx i).length → 2 * j < n → 0 ≤ pl → pl ≤ k → S.I 1 3 ≤ p → p ≤ S.I 1 3 + k → mm_r98_23 E cl n (mm_ad B 1) (E.2.2.1 i) (mm_i pl) (mm_i p) (mm_i (mm_b1 sm)) (mm_i k) (mm_hp B S c) = mm_oI (pp_am (S.A 2) (S.I 1 3) (S.I 1 4) ((pp_tx i).drop k.toNat) pl p sm) (mm_hp B S c) := by
  have hl := pp_tx_len i hi
  rw [← pp_tx_length] at hl
  intro j
  induction j with
  | zero =>
    intro n k pl p sm k0 hk hj pl0 pl1 p0 p1
    obtain ⟨n, rfl⟩ : ∃ q, n = q + 1 := ⟨n - 1, by omega⟩
    rw [mm_e98_23, pp_slE hE hi, mm_br_le (by omega) (by omega) (by omega) (by omega), if_pos (by omega), List.drop_of_length_le (by omega)]
    rfl
  | succ j ih =>
    intro n k pl p sm k0 hk hj pl0 pl1 p0 p1
    obtain ⟨n, rfl⟩ : ∃ q, n = q + 2 := ⟨n - 2, by omega⟩
    have x := pp_tx_in (i := i) (k := k.toNat) hi
    have dr : (pp_tx i).drop k.toNat = (pp_tx i).getD k.toNat 0 :: (pp_tx i).drop (k + 1).toNat := by
      rw [List.drop_eq_getElem_cons (by omega), show (k + 1).toNat = k.toNat + 1 by omega, List.getD_eq_getElem?_getD, List.getElem?_eq_getElem (by omega)]
      rfl
    rw [mm_e98_23, pp_slE hE hi, mm_br_le (by omega) (by omega) (by omega) (by omega), if_neg (by omega), pp_saE hE hi k0 (by omega), mm_br_eq (by omega) (by omega) (by omega) (by omega), mm_br_b1, mm_br_b1, dr]
    simp (disch := omega) only [mm_ptT, mm_hm, mm_br_eq, mm_br_le, mm_e98_102]
    show _ = mm_oI (if (pp_tx i).getD k.toNat 0 = 32 then (if sm = true ∧ p = S.I 1 4 then pl else pp_am (S.A 2) (S.I 1 3) (S.I 1 4) ((pp_tx i).drop (k + 1).toNat) (pl + 1) (S.I 1 3) true) else pp_am (S.A 2) (S.I 1 3) (S.I 1 4) ((pp_tx i).drop (k + 1).toNat) pl (p + 1) (sm && decide (p < S.I 1 4) && decide (S.A 2 p = (pp_tx i).getD k.toNat 0))) (mm_hp B S c)
    have b1 : mm_i 1 = mm_i (mm_b1 true) := rfl
    have b0 : mm_i 0 = mm_i (mm_b1 false) := rfl
    by_cases e : (pp_tx i).getD k.toNat 0 = 32
    · simp only [if_pos e]
      have nx := ih n (k + 1) (pl + 1) (S.I 1 3) true (by omega) (by omega) (by omega) (by omega) (by omega) (by omega) (by omega)
      rw [← b1] at nx
      cases sm with
      | false =>
        rw [if_neg (by decide), if_neg (fun z => by cases z.1)]
        exact nx
      | true =>
        rw [if_pos rfl]
        by_cases f : p = S.I 1 4
        · rw [if_pos f, if_pos ⟨rfl, f⟩]
        · rw [if_neg f, if_neg (fun z => f z.2)]
          exact nx
    · simp only [if_neg e]
      cases sm with
      | false =>
        rw [if_neg (by decide), b0]
        exact ih (n + 1) (k + 1) pl (p + 1) false (by omega) (by omega) (by omega) (by omega) (by omega) (by omega) (by omega)
      | true =>
        rw [if_pos rfl]
        by_cases f : S.I 1 4 ≤ p
        · rw [if_pos f, decide_eq_false (by omega), b0]
          exact ih (n + 1) (k + 1) pl (p + 1) false (by omega) (by omega) (by omega) (by omega) (by omega) (by omega) (by omega)
        · have by2 := hB p (by omega) (by omega)
          rw [if_neg f, mm_e98_56]
          simp (disch := omega) only [mm_ptT]
          rw [pp_saE hE hi k0 (by omega), mm_br_eq (by omega) (by omega) (by omega) (by omega), decide_eq_true (show p < S.I 1 4 by omega)]
          simp only [mm_hm, Bool.true_and]
          by_cases g : S.A 2 p = (pp_tx i).getD k.toNat 0
          · rw [if_pos g, decide_eq_true g, b1]
            exact ih n (k + 1) pl (p + 1) true (by omega) (by omega) (by omega) (by omega) (by omega) (by omega) (by omega)
          · rw [if_neg g, decide_eq_false g, b0]
            exact ih n (k + 1) pl (p + 1) false (by omega) (by omega) (by omega) (by omega) (by omega) (by omega) (by omega)
theorem c_among {i : Nat} (hE : pp_OE E B) (hd : 1 ≤ d) (hi : i < 56) (hB : pp_by (S.A 2) (S.I 1 2)) (hn : S.I 1 2 ≤ 400) (h0 : 0 ≤ S.I 1 3) (h1 : S.I 1 3 ≤ S.I 1 4) (h2 : S.I 1 4 ≤ S.I 1 2) (hk : 0 ≤ S.I 1 5 ∧ S.I 1 5 ≤ 3) : mm_ev E d 98 [.ref (mm_ad B 1), .ref (E.2.2.1 i)] (mm_hp B S c) = mm_oI (if S.I 1 5 = 1 then pp_am (S.A 2) (S.I 1 3) (S.I 1 4) (pp_tx i) 0 (S.I 1 3) true else -1) (mm_hp B S c) := by
  refine mm_v98 (by omega) (fun F e hF he => ?_)
  have hl := pp_tx_len i hi
  rw [← pp_tx_length] at hl
  rw [mm_e98_0]
  simp (disch := omega) only [mm_ptT, mm_br_eq]
  by_cases f : S.I 1 5 = 1
  · rw [if_pos f, if_pos f]
    exact l_among (cl := mm_ev E e) hE hi hB hn h0 h1 h2 (pp_tx i).length (F + 99) 0 0 (S.I 1 3) true (by omega) (by omega) (by omega) (by omega) (by omega) (by omega) (by omega)
  · rw [if_neg f, if_neg f]
end WORD
