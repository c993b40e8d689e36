/-! READING: names -/
/-- the token at hand is a name that may stand -/
def rd_nB (S : mm_S) : Bool := decide (S.I 1 5 = 1) && (decide (S.I 1 4 - S.I 1 3 ≤ 6) && !(rd_is S (pp_tx 25) || (rd_is S (pp_tx 26) || (rd_is S (pp_tx 27) || (rd_is S (pp_tx 28) || (rd_is S (pp_tx 29) || rd_is S (pp_tx 30)))))))
theorem rd_tx2 : pp_tx 2 = pp_tx 25 ++ 32 :: (pp_tx 26 ++ 32 :: (pp_tx 27 ++ 32 :: (pp_tx 28 ++ 32 :: (pp_tx 29 ++ 32 :: (pp_tx 30 ++ 32 :: []))))) := by decide +kernel
theorem rd_tx1 : pp_tx 1 = pp_tx 25 ++ 32 :: (pp_tx 29 ++ 32 :: (pp_tx 30 ++ 32 :: [])) := by decide +kernel
theorem rd_tx3 : pp_tx 3 = pp_tx 26 ++ [32] ∧ pp_tx 4 = pp_tx 27 ++ [32] ∧ pp_tx 5 = pp_tx 28 ++ [32] := by decide +kernel
theorem rd_t32 : ∀ i, 25 ≤ i → i ≤ 30 → ∀ x ∈ pp_tx i, x ≠ 32 := by
  intro i i0 i1
  have h : ∀ i, i < 31 → 25 ≤ i → (pp_tx i).all (fun x => decide (x ≠ 32)) = true := by decide +kernel
  intro x hx
  exact of_decide_eq_true (List.all_eq_true.mp (h i (by omega) i0) x hx)
/-- its letters -/
def rd_lt (S : mm_S) (k : Int) : Int := if S.I 1 4 ≤ S.I 1 3 + k then 0 else S.A 2 (S.I 1 3 + k) - 96
def rd_al (f g : Int → Int) : Nat → Int → Bool
  | 0, _ => true
  | j + 1, k => decide (f k = g k) && rd_al f g j (k + 1)
def rd_fd (P : Int → Bool) : Nat → Int → Int
  | 0, _ => -1
  | j + 1, s => if P s = true then s else rd_fd P j (s + 1)
theorem rd_al_c {f g h : Int → Int} : ∀ (j : Nat) (k : Int), (∀ i : Int, k ≤ i → i < k + j → f i = g i) → rd_al f h j k = rd_al g h j k
  | 0, _, _ => rfl
  | j + 1, k, e => by
    show (decide (f k = h k) && rd_al f h j (k + 1)) = (decide (g k = h k) && rd_al g h j (k + 1))
    rw [e k (by omega) (by omega), rd_al_c j (k + 1) (fun i i0 i1 => e i (by omega) (by omega))]
theorem rd_fd_c {P Q : Int → Bool} : ∀ (j : Nat) (s : Int), (∀ i : Int, s ≤ i → i < s + j → P i = Q i) → rd_fd P j s = rd_fd Q j s
  | 0, _, _ => rfl
  | j + 1, s, e => by
    show (if P s = true then s else rd_fd P j (s + 1)) = (if Q s = true then s else rd_fd Q j (s + 1))
    rw [e s (by omega) (by omega), rd_fd_c j (s + 1) (fun i i0 i1 => e i (by omega) (by omega))]
theorem rd_fd_r {P : Int → Bool} : ∀ (j : Nat) (s : Int), rd_fd P j s = -1 ∨ (s ≤ rd_fd P j s ∧ rd_fd P j s < s + j)
  | 0, _ => Or.inl rfl
  | j + 1, s => by
    show (if P s = true then s else rd_fd P j (s + 1)) = -1 ∨ (s ≤ (if P s = true then s else rd_fd P j (s + 1)) ∧ (if P s = true then s else rd_fd P j (s + 1)) < s + ((j + 1 : Nat) : Int))
    by_cases q : P s = true
    · rw [if_pos q]; exact Or.inr (by omega)
    · rw [if_neg q]
      rcases rd_fd_r (P := P) j (s + 1) with z | z
      · exact Or.inl z
      · exact Or.inr (by omega)
/-- the stage of the draft whose name is at hand -/
def rd_fN (S : mm_S) : Int := rd_fd (fun s => rd_al (fun k => S.A 16 (s * 6 + k)) (rd_lt S) 6 0) (S.I 14 10).toNat 0
theorem rd_br (b : Bool) (X Y : mm_R) : mm_br (mm_i (mm_b1 b) = mm_i 0) X Y = if b = true then Y else X := mm_br_b1 b X Y
theorem rd_br6 (a b c d e f : Bool) (X Y : mm_R) : mm_br (mm_i (if a = true then 0 else if b = true then 0 + 1 else if c = true then 0 + 1 + 1 else if d = true then 0 + 1 + 1 + 1 else if e = true then 0 + 1 + 1 + 1 + 1 else if f = true then 0 + 1 + 1 + 1 + 1 + 1 else -1) = mm_i (-1)) X Y = if (a || (b || (c || (d || (e || f))))) = true then Y else X := by
  cases a <;> cases b <;> cases c <;> cases d <;> cases e <;> cases f <;> (rw [mm_br_eq (by decide) (by decide) (by decide) (by decide)]; rfl)
section
variable {E : mm_E} {d B : Nat} {S T : mm_S} {c : mm_N}
theorem rd_isN (hE : pp_OE E B) (h : pp_KT S) (hd : 2 ≤ d) : mm_ev E d 88 [.ref (mm_ad B 96)] (mm_hp B S c) = mm_oI (mm_b1 (rd_nB S)) (mm_hp B S c) := by
  obtain ⟨k1, k2, k3, k4, k5, k6, k7, k8⟩ := h
  refine mm_v88 (by omega) (fun F e hF he => ?_)
  rw [mm_e88_0]
  simp (disch := omega) only [mm_ptG, mm_ptT, mm_br_eq]
  by_cases q : S.I 1 5 = 1
  · rw [if_pos q]
    simp (disch := omega) only [mm_hm, mm_br_lt]
    by_cases l : 6 < S.I 1 4 - S.I 1 3
    · rw [if_pos l, mm_bz0]
      unfold rd_nB
      rw [decide_eq_false (show ¬ S.I 1 4 - S.I 1 3 ≤ 6 by omega), Bool.false_and, Bool.and_false]
      rfl
    · rw [if_neg l, c_among hE (by omega) (by omega) k1 k2 k3 k4 k5 ⟨k6, k7⟩, if_pos q, mm_cI_ok, rd_tx2, pp_am_w _ _ _ _ (rd_t32 25 (by omega) (by omega)), pp_am_w _ _ _ _ (rd_t32 26 (by omega) (by omega)), pp_am_w _ _ _ _ (rd_t32 27 (by omega) (by omega)), pp_am_w _ _ _ _ (rd_t32 28 (by omega) (by omega)), pp_am_w _ _ _ _ (rd_t32 29 (by omega) (by omega)), pp_am_w _ _ _ _ (rd_t32 30 (by omega) (by omega))]
      unfold rd_nB rd_is
      rw [decide_eq_true q, decide_eq_true (show S.I 1 4 - S.I 1 3 ≤ 6 by omega)]
      simp only [Bool.true_and]
      rw [show pp_am (S.A 2) (S.I 1 3) (S.I 1 4) [] (0 + 1 + 1 + 1 + 1 + 1 + 1) (S.I 1 3) true = -1 from rfl, rd_br6]
      cases (pp_wd (S.A 2) (S.I 1 3) (S.I 1 4) (pp_tx 25) || (pp_wd (S.A 2) (S.I 1 3) (S.I 1 4) (pp_tx 26) || (pp_wd (S.A 2) (S.I 1 3) (S.I 1 4) (pp_tx 27) || (pp_wd (S.A 2) (S.I 1 3) (S.I 1 4) (pp_tx 28) || (pp_wd (S.A 2) (S.I 1 3) (S.I 1 4) (pp_tx 29) || pp_wd (S.A 2) (S.I 1 3) (S.I 1 4) (pp_tx 30))))))
      · rw [if_neg (by decide), mm_bz1]; rfl
      · rw [if_pos rfl, mm_bz0]; rfl
  · rw [if_neg q, mm_bz0]
    unfold rd_nB
    rw [decide_eq_false q, Bool.false_and]
    rfl
theorem rd_isNM (hE : pp_OE E B) (h : rd_T S T) (hd : 2 ≤ d) : mm_ev E d 242 [.ref (mm_ad B 101)] (mm_hp B T c) = mm_oI (mm_b1 (rd_nB S)) (mm_hp B T c) := by
  have h' := h
  obtain ⟨h1, h2, h3, h4, h5, h6, h7, h8, h9⟩ := h
  obtain ⟨k1, k2, k3, k4, k5, k6, k7, k8⟩ := h1
  refine mm_v242 (by omega) (fun F e hF he => ?_)
  rw [mm_e242_0]
  simp (disch := omega) only [mm_ptM]
  rw [h3, h8, h6, h7, mm_br_t rfl, mm_br_eq (by omega) (by omega) (by omega) (by omega)]
  by_cases q : S.I 1 5 = 1
  · rw [if_pos q]
    simp (disch := omega) only [mm_hm, mm_br_lt]
    by_cases l : 6 < S.I 1 4 - S.I 1 3
    · rw [if_pos l, mm_bz0]
      unfold rd_nB
      rw [decide_eq_false (show ¬ S.I 1 4 - S.I 1 3 ≤ 6 by omega), Bool.false_and, Bool.and_false]
      rfl
    · unfold rd_nB
      rw [if_neg l, decide_eq_true q, decide_eq_true (show S.I 1 4 - S.I 1 3 ≤ 6 by omega), Bool.true_and, Bool.true_and, rd_isW hE h' (by omega) (by omega), mm_cI_ok, mm_br_b1]
      cases rd_is S (pp_tx 25)
      · rw [if_neg (by decide), Bool.false_or, mm_e242_39, rd_isW hE h' (by omega) (by omega), mm_cI_ok, mm_br_b1]
        cases rd_is S (pp_tx 26)
        · rw [if_neg (by decide), Bool.false_or, mm_e242_49, rd_isW hE h' (by omega) (by omega), mm_cI_ok, mm_br_b1]
          cases rd_is S (pp_tx 27)
          · rw [if_neg (by decide), Bool.false_or, rd_isW hE h' (by omega) (by omega), mm_cI_ok, mm_br_b1]
            cases rd_is S (pp_tx 28)
            · rw [if_neg (by decide), Bool.false_or, rd_isW hE h' (by omega) (by omega), mm_cI_ok, mm_br_b1]
              cases rd_is S (pp_tx 29)
              · rw [if_neg (by decide), Bool.false_or, rd_isW hE h' (by omega) (by omega), mm_cI_ok, mm_br_b1]
                cases rd_is S (pp_tx 30)
                · rw [if_neg (by decide), mm_bz1]; rfl
                · rw [if_pos rfl, mm_bz0]; rfl
              · rw [if_pos rfl, mm_bz0]; rfl
            · rw [if_pos rfl, mm_bz0]; rfl
          · rw [if_pos rfl, mm_bz0]; rfl
        · rw [if_pos rfl, mm_bz0]; rfl
      · rw [if_pos rfl, mm_bz0]; rfl
  · rw [if_neg q, mm_bz0]
    unfold rd_nB
    rw [decide_eq_false q, Bool.false_and]
    rfl
theorem rd_isNMb (h : rd_M T) (h0 : T.I 101 32 ≠ 0) (hd : 2 ≤ d) : mm_ev E d 242 [.ref (mm_ad B 101)] (mm_hp B T c) = mm_oI 0 (mm_hp B T c) := by
  obtain ⟨k1, k2, k3, k4, k5, k6, k7, k8, k9, k10, k11⟩ := h.1
  refine mm_v242 (by omega) (fun F e hF he => ?_)
  rw [mm_e242_0]
  simp (disch := omega) only [mm_ptM, mm_br_eq]
  rw [if_neg h0, mm_bz0]
theorem c_letterAt (h : pp_KT S) (hd : 1 ≤ d) {k : Int} (k0 : 0 ≤ k) (k1 : k < 1000) : mm_ev E d 90 [.ref (mm_ad B 96), .int (mm_i (S.I 1 3 + k))] (mm_hp B S c) = mm_oI (rd_lt S k) (mm_hp B S c) := by
  obtain ⟨b1, b2, b3, b4, b5, b6, b7, b8⟩ := h
  refine mm_v90 (by omega) (fun F e hF he => ?_)
  rw [mm_e90_0]
  simp (disch := omega) only [mm_ptG, mm_ptT, mm_br_le]
  unfold rd_lt
  by_cases q : S.I 1 4 ≤ S.I 1 3 + k
  · rw [if_pos q, if_pos q]
  · rw [if_neg q, if_neg q]
    simp (disch := omega) only [mm_ptT, mm_hm]
    rw [show S.A 2 (S.I 1 3 + k) - 97 + 1 = S.A 2 (S.I 1 3 + k) - 96 by omega]
theorem rd_lt_r (h : pp_KT S) {k : Int} (k0 : 0 ≤ k) : -1000 ≤ rd_lt S k ∧ rd_lt S k ≤ 1000 := by
  obtain ⟨b1, b2, b3, b4, b5, b6, b7, b8⟩ := h
  unfold rd_lt
  by_cases q : S.I 1 4 ≤ S.I 1 3 + k
  · rw [if_pos q]; omega
  · rw [if_neg q]
    have := b1 (S.I 1 3 + k) (by omega) (by omega)
    omega
theorem l_fn1 (h : pp_KT S) (hB : ∀ i : Int, 0 ≤ i → i < 72 → -1000 ≤ S.A 16 i ∧ S.A 16 i ≤ 1000) (hd : 1 ≤ d) {s : Int} (s0 : 0 ≤ s) (s1 : s < 12) : ∀ (j k n : Nat) (b : Bool), k + j = 6 → j < n → ∃ m, n ≤ m + j ∧ mm_r89_17 E (mm_ev E d) n (mm_ad B 96) (mm_i s) (mm_i (mm_b1 b)) (mm_i k) (mm_hp B S c) = mm_r89_17 E (mm_ev E d) m (mm_ad B 96) (mm_i s) (mm_i (mm_b1 (b && rd_al (fun k => S.A 16 (s * 6 + k)) (rd_lt S) j k))) (mm_i 6) (mm_hp B S c) := by
  intro j
  induction j with
  | zero =>
    intro k n b hk hn
    obtain rfl : k = 6 := by omega
    exact ⟨n, by omega, by rw [show rd_al (fun k => S.A 16 (s * 6 + k)) (rd_lt S) 0 ((6 : Nat) : Int) = true from rfl, Bool.and_true]; rfl⟩
  | succ j ih =>
    intro k n b hk hn
    obtain ⟨n, rfl⟩ : ∃ q, n = q + 1 := ⟨n - 1, by omega⟩
    have e : rd_al (fun k => S.A 16 (s * 6 + k)) (rd_lt S) (j + 1) k = (decide (S.A 16 (s * 6 + k) = rd_lt S k) && rd_al (fun k => S.A 16 (s * 6 + k)) (rd_lt S) j ((k : Int) + 1)) := rfl
    rw [e, mm_e89_17, mm_br_le (by omega) (by omega) (by omega) (by omega), if_neg (by omega), mm_br_b1]
    cases b
    · obtain ⟨m, m0, m1⟩ := ih (k + 1) n false (by omega) (by omega)
      rw [Int.natCast_add, Int.natCast_one] at m1
      refine ⟨m, by omega, ?_⟩
      rw [if_neg (by decide), mm_i_add]
      exact m1
    · obtain ⟨m, m0, m1⟩ := ih (k + 1) n (decide (S.A 16 (s * 6 + k) = rd_lt S k)) (by omega) (by omega)
      rw [Int.natCast_add, Int.natCast_one] at m1
      refine ⟨m, by omega, ?_⟩
      have hx : -1000 ≤ S.A (14 + 2) (s * 6 + k) ∧ S.A (14 + 2) (s * 6 + k) ≤ 1000 := hB (s * 6 + k) (by omega) (by omega)
      have hl := rd_lt_r h (k := k) (by omega)
      rw [if_pos rfl, Bool.true_and, ← m1]
      simp (disch := omega) only [mm_ptG, mm_hm]
      simp (disch := omega) only [mm_ptN, mm_ptT, mm_hm]
      rw [c_letterAt h hd (by omega) (by omega), mm_cI_ok, mm_br_eq (by omega) (by omega) (by omega) (by omega)]
      by_cases z : S.A (14 + 2) (s * 6 + k) = rd_lt S k
      · rw [if_pos z, decide_eq_true (show S.A 16 (s * 6 + k) = rd_lt S k from z)]
        rfl
      · rw [if_neg z, decide_eq_false (show ¬ S.A 16 (s * 6 + k) = rd_lt S k from z)]
        rfl
theorem l_fn2 (h : pp_KT S) (hB : ∀ i : Int, 0 ≤ i → i < 72 → -1000 ≤ S.A 16 i ∧ S.A 16 i ≤ 1000) (hn : 0 ≤ S.I 14 10 ∧ S.I 14 10 ≤ 12) (hd : 1 ≤ d) : ∀ (j n : Nat) (s : Int) (o2 o3 : Option Value), 0 ≤ s → s + j = S.I 14 10 → 20 * (j + 1) < n → mm_r89_2 E (mm_ev E d) n (mm_ad B 96) (mm_i s) o2 o3 (mm_hp B S c) = mm_oI (rd_fd (fun s => rd_al (fun k => S.A 16 (s * 6 + k)) (rd_lt S) 6 0) j s) (mm_hp B S c) := by
  intro j
  induction j with
  | zero =>
    intro n s o2 o3 s0 hs hn
    obtain ⟨n, rfl⟩ : ∃ q, n = q + 1 := ⟨n - 1, by omega⟩
    rw [mm_e89_2]
    simp (disch := omega) only [mm_ptG]
    simp (disch := omega) only [mm_ptN, mm_br_le]
    rw [if_pos (by omega)]
    rfl
  | succ j ih =>
    intro n s o2 o3 s0 hs hm
    obtain ⟨n, rfl⟩ : ∃ q, n = q + 1 := ⟨n - 1, by omega⟩
    obtain ⟨m, m0, m1⟩ := l_fn1 (E := E) (d := d) (B := B) (c := c) h hB hd (s := s) s0 (by omega) 6 0 n true (by omega) (by omega)
    obtain ⟨m, rfl⟩ : ∃ q, m = q + 1 := ⟨m - 1, by omega⟩
    have m1 : mm_r89_17 E (mm_ev E d) n (mm_ad B 96) (mm_i s) (mm_i 1) (mm_i 0) (mm_hp B S c) = _ := m1
    rw [mm_e89_2]
    simp (disch := omega) only [mm_ptG]
    simp (disch := omega) only [mm_ptN, mm_br_le]
    rw [if_neg (by omega), m1, mm_e89_17, mm_br_le (by omega) (by omega) (by omega) (by omega), if_pos (by omega), mm_br_b1, Bool.true_and, mm_i_add, ih m (s + 1) _ _ (by omega) (by omega) (by omega)]
    show _ = mm_oI (if rd_al (fun k => S.A 16 (s * 6 + k)) (rd_lt S) 6 0 = true then s else _) _
    cases z : rd_al (fun k => S.A 16 (s * 6 + k)) (rd_lt S) 6 ((0 : Nat) : Int)
    · rw [if_neg (by decide), if_neg (by decide)]
    · rw [if_pos rfl, if_pos rfl]
theorem c_findName (h : pp_KT S) (hB : ∀ i : Int, 0 ≤ i → i < 72 → -1000 ≤ S.A 16 i ∧ S.A 16 i ≤ 1000) (hn : 0 ≤ S.I 14 10 ∧ S.I 14 10 ≤ 12) (hd : 2 ≤ d) : mm_ev E d 89 [.ref (mm_ad B 96)] (mm_hp B S c) = mm_oI (rd_fN S) (mm_hp B S c) := by
  refine mm_v89 (by omega) (fun F e hF he => ?_)
  rw [mm_e89_0]
  exact l_fn2 h hB hn (by omega) _ _ 0 _ _ (by omega) (by omega) (by omega)
theorem l_fm1 (h : rd_T S T) {cl : mm_F} (hB : ∀ i : Int, 0 ≤ i → i < 72 → -1000 ≤ T.A 103 (87 + i) ∧ T.A 103 (87 + i) ≤ 1000) {s : Int} (s0 : 0 ≤ s) (s1 : s < 12) : ∀ (j k n : Nat) (b : Bool), k + j = 6 → j < n → ∃ m, n ≤ m + j ∧ mm_r243_16 E cl n (mm_ad B 101) (mm_i s) (mm_i (mm_b1 b)) (mm_i k) (mm_hp B T c) = mm_r243_16 E cl m (mm_ad B 101) (mm_i s) (mm_i (mm_b1 (b && rd_al (fun k => T.A 103 (87 + 6 * s + k)) (rd_lt S) j k))) (mm_i 6) (mm_hp B T c) := by
  obtain ⟨h1, h2, h3, h4, h5, h6, h7, h8, h9⟩ := h
  have h1' := h1
  obtain ⟨k1, k2, k3, k4, k5, k6, k7, k8⟩ := h1
  intro j
  induction j with
  | zero =>
    intro k n b hk hn
    obtain rfl : k = 6 := by omega
    exact ⟨n, by omega, by rw [show rd_al (fun k => T.A 103 (87 + 6 * s + k)) (rd_lt S) 0 ((6 : Nat) : Int) = true from rfl, Bool.and_true]; rfl⟩
  | succ j ih =>
    intro k n b hk hn
    obtain ⟨n, rfl⟩ : ∃ q, n = q + 1 := ⟨n - 1, by omega⟩
    have e : rd_al (fun k => T.A 103 (87 + 6 * s + k)) (rd_lt S) (j + 1) k = (decide (T.A 103 (87 + 6 * s + k) = rd_lt S k) && rd_al (fun k => T.A 103 (87 + 6 * s + k)) (rd_lt S) j ((k : Int) + 1)) := rfl
    rw [e, mm_e243_16, mm_br_le (by omega) (by omega) (by omega) (by omega), if_neg (by omega), mm_br_b1]
    cases b
    · obtain ⟨m, m0, m1⟩ := ih (k + 1) n false (by omega) (by omega)
      rw [Int.natCast_add, Int.natCast_one] at m1
      refine ⟨m, by omega, ?_⟩
      rw [if_neg (by decide), mm_i_add]
      exact m1
    · obtain ⟨m, m0, m1⟩ := ih (k + 1) n (decide (T.A 103 (87 + 6 * s + k) = rd_lt S k)) (by omega) (by omega)
      rw [Int.natCast_add, Int.natCast_one] at m1
      refine ⟨m, by omega, ?_⟩
      have hx := hB (6 * s + k) (by omega) (by omega)
      rw [show 87 + (6 * s + (k : Int)) = 87 + 6 * s + k by omega] at hx
      have hl := rd_lt_r h1' (k := k) (by omega)
      rw [if_pos rfl, Bool.true_and, ← m1]
      simp (disch := omega) only [mm_hm]
      simp (disch := omega) only [mm_ptM, mm_hm]
      rw [h6, h7, mm_br_le (by omega) (by omega) (by omega) (by omega)]
      unfold rd_lt at hl ⊢
      by_cases q : S.I 1 4 ≤ S.I 1 3 + k
      · rw [if_pos q, if_pos q, mm_br_eq (by omega) (by omega) (by omega) (by omega)]
        by_cases z : T.A 103 (87 + 6 * s + k) = 0
        · rw [if_pos z, decide_eq_true z]; rfl
        · rw [if_neg z, decide_eq_false z]; rfl
      · rw [if_neg q] at hl
        rw [if_neg q, if_neg q]
        simp (disch := omega) only [mm_ptM, mm_hm]
        rw [h5 _ (by omega) (by omega), mm_br_eq (by omega) (by omega) (by omega) (by omega)]
        by_cases z : T.A 103 (87 + 6 * s + k) = S.A 2 (S.I 1 3 + k) - 96
        · rw [if_pos z, decide_eq_true z]; rfl
        · rw [if_neg z, decide_eq_false z]; rfl
theorem l_fm2 (h : rd_T S T) {cl : mm_F} (hB : ∀ i : Int, 0 ≤ i → i < 72 → -1000 ≤ T.A 103 (87 + i) ∧ T.A 103 (87 + i) ≤ 1000) (hn : 0 ≤ T.A 103 0 ∧ T.A 103 0 ≤ 12) : ∀ (j n : Nat) (s : Int) (o2 o3 : Option Value), 0 ≤ s → s + j = T.A 103 0 → 20 * (j + 1) < n → mm_r243_2 E cl n (mm_ad B 101) (mm_i s) o2 o3 (mm_hp B T c) = mm_oI (rd_fd (fun s => rd_al (fun k => T.A 103 (87 + 6 * s + k)) (rd_lt S) 6 0) j s) (mm_hp B T c) := by
  intro j
  induction j with
  | zero =>
    intro n s o2 o3 s0 hs hn
    obtain ⟨n, rfl⟩ : ∃ q, n = q + 1 := ⟨n - 1, by omega⟩
    rw [mm_e243_2]
    simp (disch := omega) only [mm_ptM, mm_br_le]
    rw [if_pos (by omega)]
    rfl
  | succ j ih =>
    intro n s o2 o3 s0 hs hm
    obtain ⟨n, rfl⟩ : ∃ q, n = q + 1 := ⟨n - 1, by omega⟩
    obtain ⟨m, m0, m1⟩ := l_fm1 (E := E) (B := B) (c := c) (cl := cl) h hB (s := s) s0 (by omega) 6 0 n true (by omega) (by omega)
    obtain ⟨m, rfl⟩ : ∃ q, m = q + 1 := ⟨m - 1, by omega⟩
    have m1 : mm_r243_16 E cl n (mm_ad B 101) (mm_i s) (mm_i 1) (mm_i 0) (mm_hp B T c) = _ := m1
    rw [mm_e243_2]
    simp (disch := omega) only [mm_ptM, mm_br_le]
    rw [if_neg (by omega), m1, mm_e243_16, mm_br_le (by omega) (by omega) (by omega) (by omega), if_pos (by omega), mm_br_b1, Bool.true_and, mm_i_add, ih m (s + 1) _ _ (by omega) (by omega) (by omega)]
    show _ = mm_oI (if rd_al (fun k => T.A 103 (87 + 6 * s + k)) (rd_lt S) 6 0 = true then s else _) _
    cases z : rd_al (fun k => T.A 103 (87 + 6 * s + k)) (rd_lt S) 6 ((0 : Nat) : Int)
    · rw [if_neg (by decide), if_neg (by decide)]
    · rw [if_pos rfl, if_pos rfl]
theorem m_named (h : rd_T S T) (hB : ∀ i : Int, 0 ≤ i → i < 72 → -1000 ≤ T.A 103 (87 + i) ∧ T.A 103 (87 + i) ≤ 1000) (hn : 0 ≤ T.A 103 0 ∧ T.A 103 0 ≤ 12) (hd : 1 ≤ d) (e10 : S.I 14 10 = T.A 103 0) (eN : ∀ s k : Int, 0 ≤ s → s < T.A 103 0 → 0 ≤ k → k < 6 → S.A 16 (s * 6 + k) = T.A 103 (87 + 6 * s + k)) : mm_ev E d 243 [.ref (mm_ad B 101)] (mm_hp B T c) = mm_oI (rd_fN S) (mm_hp B T c) := by
  refine mm_v243 (by omega) (fun F e hF he => ?_)
  rw [mm_e243_0, l_fm2 h hB hn (T.A 103 0).toNat _ 0 _ _ (by omega) (by omega) (by omega)]
  unfold rd_fN
  rw [e10, rd_fd_c _ _ (fun s s0 s1 => (rd_al_c 6 0 (fun k k0 k1 => (eN s k s0 (by omega) k0 (by omega)).symm)))]
theorem rd_fN_r (hn : 0 ≤ S.I 14 10) : rd_fN S = -1 ∨ (0 ≤ rd_fN S ∧ rd_fN S < S.I 14 10) := by
  rcases rd_fd_r (P := fun s => rd_al (fun k => S.A 16 (s * 6 + k)) (rd_lt S) 6 0) (S.I 14 10).toNat 0 with z | z
  · exact Or.inl z
  · exact Or.inr ⟨z.1, by have := z.2; unfold rd_fN; omega⟩
end
