/-! THE CHEAPEST WAIT, THE CHEAPEST TIME -/
theorem bb_mi_ext {F x w m : Int} {g : Int → Int} (h : pp_mi F (fun v => ∃ i : Int, (x ≤ i ∧ i < w) ∧ v = g i) m) (hw : x ≤ w) : pp_mi F (fun v => ∃ i : Int, (x ≤ i ∧ i < w + 1) ∧ v = g i) (min m (g w)) := by
  obtain ⟨a1, a2, a3⟩ := h
  refine ⟨by omega, ?_, ?_⟩
  · rintro _ ⟨i, hi, rfl⟩
    by_cases e : i = w
    · subst e; omega
    · have := a2 _ ⟨i, ⟨hi.1, by omega⟩, rfl⟩
      omega
  · by_cases e : m ≤ g w
    · rw [show min m (g w) = m by omega]
      rcases a3 with a3 | ⟨i, hi, e2⟩
      · exact Or.inl a3
      · exact Or.inr ⟨i, ⟨hi.1, by omega⟩, e2⟩
    · exact Or.inr ⟨w, ⟨hw, by omega⟩, by omega⟩
theorem bb_mi_ex {F x : Int} {g : Int → Int} : ∀ j : Nat, ∃ m, pp_mi F (fun v => ∃ i : Int, (x ≤ i ∧ i < x + j) ∧ v = g i) m
  | 0 => ⟨F, pp_mi_no (fun y ⟨i, hi, _⟩ => by omega)⟩
  | j + 1 => by
    obtain ⟨m, hm⟩ := bb_mi_ex (F := F) (x := x) (g := g) j
    have e := bb_mi_ext hm (by omega)
    rw [show x + (j : Int) + 1 = x + ((j + 1 : Nat) : Int) by omega] at e
    exact ⟨_, e⟩
/-- two ranges that are one -/
theorem bb_mi_rg {F x y m : Int} {P : Int → Prop} {g : Int → Int} (hp : ∀ i, P i ↔ (x ≤ i ∧ i < y)) : pp_mi F (fun v => ∃ i : Int, P i ∧ v = g i) m ↔ pp_mi F (fun v => ∃ i : Int, (x ≤ i ∧ i < y) ∧ v = g i) m := by
  constructor
  · exact fun h => pp_mi_to h (fun z ⟨i, hi, e⟩ => ⟨z, ⟨i, (hp i).mpr hi, e⟩, Int.le_refl z⟩) (fun _ ⟨i, hi, e⟩ => ⟨i, (hp i).mp hi, e⟩)
  · exact fun h => pp_mi_to h (fun z ⟨i, hi, e⟩ => ⟨z, ⟨i, (hp i).mp hi, e⟩, Int.le_refl z⟩) (fun _ ⟨i, hi, e⟩ => ⟨i, (hp i).mpr hi, e⟩)
section
variable {E : mm_E} {d B : Nat} {S : mm_S} {c : mm_N} {a : Nat}
theorem l_pickW {more latest b x : Int} {ju : Int → Int} (hd : 1 ≤ d) (hl : 0 ≤ latest ∧ latest < 120) (hm : -120 ≤ more ∧ more ≤ 9) (hx : x = max 0 (-more)) (hb : 0 ≤ b ∧ b ≤ 2305843009213693952) (hj : pp_vr (S.L 46) (S.L 47) latest b ju) (hp : ∀ i : Int, 0 ≤ i → i ≤ latest + more → 0 ≤ S.L 54 i ∧ S.L 54 i ≤ 288230376151711744) (hm2 : latest + more < 120) : ∀ (j n : Nat) (w h l : Int) (o10 o11 : Option Value), x ≤ w → w + j = latest + 1 → 4 * j < n → (0 ≤ h ∧ h ≤ 288230376151711744 ∧ 0 ≤ l ∧ l ≤ b) → pp_mi 5316911983139663491615228241121378304 (fun v => ∃ i : Int, (x ≤ i ∧ i < w) ∧ v = ju i + S.L 54 (i + more) * 18446744073709551616) (h * 18446744073709551616 + l) →
    ∃ h' l', (0 ≤ h' ∧ h' ≤ 288230376151711744 ∧ 0 ≤ l' ∧ l' ≤ b) ∧ pp_mi 5316911983139663491615228241121378304 (fun v => ∃ i : Int, (x ≤ i ∧ i < latest + 1) ∧ v = ju i + S.L 54 (i + more) * 18446744073709551616) (h' * 18446744073709551616 + l') ∧ mm_r15_33 E (mm_ev E d) n (mm_ad B 40) (mm_i more) (mm_i latest) (mm_ad B 46) (mm_ad B 47) (mm_j h) (mm_j l) (mm_i w) o10 o11 (mm_hp B S c) = mm_oV (mm_hp B ((S.sL 52 (mm_u (S.L 52) 0 h')).sL 53 (mm_u (S.L 53) 0 l')) c) := by
  intro j
  induction j with
  | zero =>
    intro n w h l o10 o11 hw wj hn hh hmi
    obtain ⟨n, rfl⟩ : ∃ m, n = m + 1 := ⟨n - 1, by omega⟩
    obtain ⟨h', l', hh', he⟩ := c_putP (E := E) (d := d) (B := B) (c := c) (S := S) (h := h) (l := l) hd (by omega) (by omega) (by omega) (by omega)
    have e : h' * 18446744073709551616 + l' = h * 18446744073709551616 + l := by have := hmi.1; omega
    refine ⟨h', l', ⟨by omega, by omega, by omega, by omega⟩, ?_, ?_⟩
    · rw [e, show latest + 1 = w by omega]; exact hmi
    · rw [mm_e15_33, mm_br_lt (by omega) (by omega) (by omega) (by omega), if_pos (by omega)]
      simp (disch := omega) only [mm_ptB]
      rw [he, mm_cV_ok]
  | succ j ih =>
    intro n w h l o10 o11 hw wj hn hh hmi
    obtain ⟨n, rfl⟩ : ∃ m, n = m + 4 := ⟨n - 4, by omega⟩
    have rj := hj w (by omega) (by omega)
    have rp := hp (w + more) (by omega) (by omega)
    have mx := bb_mi_ext hmi hw
    have step : ∃ (h1 l1 : Int) (m : Nat) (o10' o11' : Option Value), (0 ≤ h1 ∧ h1 ≤ 288230376151711744 ∧ 0 ≤ l1 ∧ l1 ≤ b ∧ h1 * 18446744073709551616 + l1 = min (h * 18446744073709551616 + l) (ju w + S.L 54 (w + more) * 18446744073709551616)) ∧ n ≤ m ∧ mm_r15_33 E (mm_ev E d) (n + 4) (mm_ad B 40) (mm_i more) (mm_i latest) (mm_ad B 46) (mm_ad B 47) (mm_j h) (mm_j l) (mm_i w) o10 o11 (mm_hp B S c) = mm_r15_33 E (mm_ev E d) m (mm_ad B 40) (mm_i more) (mm_i latest) (mm_ad B 46) (mm_ad B 47) (mm_j h1) (mm_j l1) (mm_i (w + 1)) o10' o11' (mm_hp B S c) := by
      by_cases q1 : S.L 46 w + S.L 54 (w + more) < h
      · refine ⟨S.L 46 w + S.L 54 (w + more), S.L 47 w, n + 2, some (.long (mm_j (S.L 46 w + S.L 54 (w + more)))), none, ⟨by omega, by omega, by omega, by omega, by omega⟩, by omega, ?_⟩
        rw [mm_e15_33, mm_br_lt (by omega) (by omega) (by omega) (by omega), if_neg (by omega), mm_i_add, mm_br_le (by omega) (by omega) (by omega) (by omega), if_neg (by omega)]
        simp (disch := omega) only [mm_ptB, pp_pq, mm_hm, mm_j_cmp, mm_cm_lt]
        rw [if_pos q1, mm_e15_95]
        simp (disch := omega) only [pp_pq, mm_hm]
      · by_cases q2 : S.L 46 w + S.L 54 (w + more) = h
        · by_cases q3 : S.L 47 w < l
          · refine ⟨S.L 46 w + S.L 54 (w + more), S.L 47 w, n, some (.long (mm_j (S.L 46 w + S.L 54 (w + more)))), none, ⟨by omega, by omega, by omega, by omega, by omega⟩, by omega, ?_⟩
            rw [mm_e15_33, mm_br_lt (by omega) (by omega) (by omega) (by omega), if_neg (by omega), mm_i_add, mm_br_le (by omega) (by omega) (by omega) (by omega), if_neg (by omega)]
            simp (disch := omega) only [mm_ptB, pp_pq, mm_hm, mm_j_cmp, mm_cm_lt]
            rw [if_neg q1, mm_e15_72]
            simp (disch := omega) only [mm_j_cmp, mm_cm_eq]
            rw [if_pos q2, mm_e15_80]
            simp (disch := omega) only [pp_pq, mm_j_cmp, mm_cm_ge]
            rw [if_pos q3, mm_e15_95]
            simp (disch := omega) only [pp_pq, mm_hm]
          · refine ⟨h, l, n + 1, some (.long (mm_j (S.L 46 w + S.L 54 (w + more)))), none, ⟨by omega, by omega, by omega, by omega, by omega⟩, by omega, ?_⟩
            rw [mm_e15_33, mm_br_lt (by omega) (by omega) (by omega) (by omega), if_neg (by omega), mm_i_add, mm_br_le (by omega) (by omega) (by omega) (by omega), if_neg (by omega)]
            simp (disch := omega) only [mm_ptB, pp_pq, mm_hm, mm_j_cmp, mm_cm_lt]
            rw [if_neg q1, mm_e15_72]
            simp (disch := omega) only [mm_j_cmp, mm_cm_eq]
            rw [if_pos q2, mm_e15_80]
            simp (disch := omega) only [pp_pq, mm_j_cmp, mm_cm_ge, mm_hm]
            rw [if_neg q3]
        · refine ⟨h, l, n + 2, some (.long (mm_j (S.L 46 w + S.L 54 (w + more)))), none, ⟨by omega, by omega, by omega, by omega, by omega⟩, by omega, ?_⟩
          rw [mm_e15_33, mm_br_lt (by omega) (by omega) (by omega) (by omega), if_neg (by omega), mm_i_add, mm_br_le (by omega) (by omega) (by omega) (by omega), if_neg (by omega)]
          simp (disch := omega) only [mm_ptB, pp_pq, mm_hm, mm_j_cmp, mm_cm_lt]
          rw [if_neg q1, mm_e15_72]
          simp (disch := omega) only [mm_j_cmp, mm_cm_eq, mm_hm]
          rw [if_neg q2]
    obtain ⟨h1, l1, m, o10', o11', hh1, hm1, e1⟩ := step
    rw [e1]
    exact ih m (w + 1) h1 l1 o10' o11' (by omega) (by omega) (by omega) (by omega) (by rw [hh1.2.2.2.2]; exact mx)
theorem c_pickW {more latest b : Int} {ju : Int → Int} (hd : 2 ≤ d) (hl : 0 ≤ latest ∧ latest < 120) (hm : -120 ≤ more ∧ more ≤ 9) (hx : max 0 (-more) ≤ latest + 1) (hb : 0 ≤ b ∧ b ≤ 2305843009213693952) (hj : pp_vr (S.L 46) (S.L 47) latest b ju) (hp : ∀ i : Int, 0 ≤ i → i ≤ latest + more → 0 ≤ S.L 54 i ∧ S.L 54 i ≤ 288230376151711744) (hm2 : latest + more < 120) :
    ∃ h' l', (0 ≤ h' ∧ h' ≤ 288230376151711744 ∧ 0 ≤ l' ∧ l' ≤ b) ∧ pp_mi 5316911983139663491615228241121378304 (fun v => ∃ i : Int, (0 ≤ i ∧ i ≤ latest ∧ 0 ≤ i + more) ∧ v = ju i + S.L 54 (i + more) * 18446744073709551616) (h' * 18446744073709551616 + l') ∧ mm_ev E d 15 [.ref (mm_ad B 40), .int (mm_i more), .int (mm_i latest)] (mm_hp B S c) = mm_oV (mm_hp B ((S.sL 52 (mm_u (S.L 52) 0 h')).sL 53 (mm_u (S.L 53) 0 l')) c) := by
  obtain ⟨e, rfl⟩ : ∃ k, d = k + 1 := ⟨d - 1, by omega⟩
  obtain ⟨F, hF, h⟩ := mm_w15 E e B S c (mm_i more) (mm_i latest)
  rw [h, mm_e15_0]
  simp (disch := omega) only [mm_ptB, pp_pq, mm_hm, mm_i_mx]
  obtain ⟨h', l', r1, r2, r3⟩ := l_pickW (E := E) (d := e) (B := B) (S := S) (c := c) (more := more) (latest := latest) (b := b) (x := max 0 (-more)) (ju := ju) (by omega) hl hm rfl hb hj hp hm2 (latest + 1 - max 0 (-more)).toNat (F + 99) (max 0 (-more)) 288230376151711744 0 none none (by omega) (by omega) (by omega) (by omega) (pp_mi_no (fun y ⟨i, hi, _⟩ => by omega))
  exact ⟨h', l', r1, (bb_mi_rg (fun i => by omega)).mpr r2, r3⟩
theorem l_pickT {tog b : Int} {own : Int → Int} (hd : 1 ≤ d) (hl : 0 ≤ tog ∧ tog < 120) (hb : 0 ≤ b ∧ b ≤ 2305843009213693952) (hj : pp_vr (S.L 49) (S.L 50) tog b own) (hp : ∀ i : Int, 0 ≤ i → i ≤ tog → 0 ≤ S.L 54 i ∧ S.L 54 i ≤ 288230376151711744) : ∀ (j n : Nat) (w h l : Int) (o10 o11 : Option Value), 0 ≤ w → w + j = tog + 1 → 4 * j < n → (0 ≤ h ∧ h ≤ 288230376151711744 ∧ 0 ≤ l ∧ l ≤ b) → pp_mi 5316911983139663491615228241121378304 (fun v => ∃ i : Int, (0 ≤ i ∧ i < w) ∧ v = own i + S.L 54 (tog - i) * 18446744073709551616) (h * 18446744073709551616 + l) →
    ∃ h' l', (0 ≤ h' ∧ h' ≤ 288230376151711744 ∧ 0 ≤ l' ∧ l' ≤ b) ∧ pp_mi 5316911983139663491615228241121378304 (fun v => ∃ i : Int, (0 ≤ i ∧ i < tog + 1) ∧ v = own i + S.L 54 (tog - i) * 18446744073709551616) (h' * 18446744073709551616 + l') ∧ mm_r17_35 E (mm_ev E d) n (mm_ad B 40) (mm_i tog) (mm_ad B 49) (mm_ad B 50) (mm_j h) (mm_j l) (mm_i tog) (mm_i w) o10 o11 (mm_hp B S c) = mm_oV (mm_hp B ((S.sL 52 (mm_u (S.L 52) 0 h')).sL 53 (mm_u (S.L 53) 0 l')) c) := by
  intro j
  induction j with
  | zero =>
    intro n w h l o10 o11 hw wj hn hh hmi
    obtain ⟨n, rfl⟩ : ∃ m, n = m + 1 := ⟨n - 1, by omega⟩
    obtain ⟨h', l', hh', he⟩ := c_putP (E := E) (d := d) (B := B) (c := c) (S := S) (h := h) (l := l) hd (by omega) (by omega) (by omega) (by omega)
    have e : h' * 18446744073709551616 + l' = h * 18446744073709551616 + l := by have := hmi.1; omega
    refine ⟨h', l', ⟨by omega, by omega, by omega, by omega⟩, ?_, ?_⟩
    · rw [e, show tog + 1 = w by omega]; exact hmi
    · rw [mm_e17_35, mm_br_lt (by omega) (by omega) (by omega) (by omega), if_pos (by omega)]
      simp (disch := omega) only [mm_ptB]
      rw [he, mm_cV_ok]
  | succ j ih =>
    intro n w h l o10 o11 hw wj hn hh hmi
    obtain ⟨n, rfl⟩ : ∃ m, n = m + 4 := ⟨n - 4, by omega⟩
    have rj := hj w (by omega) (by omega)
    have rp := hp (tog - w) (by omega) (by omega)
    have mx := bb_mi_ext hmi hw
    have step : ∃ (h1 l1 : Int) (m : Nat) (o10' o11' : Option Value), (0 ≤ h1 ∧ h1 ≤ 288230376151711744 ∧ 0 ≤ l1 ∧ l1 ≤ b ∧ h1 * 18446744073709551616 + l1 = min (h * 18446744073709551616 + l) (own w + S.L 54 (tog - w) * 18446744073709551616)) ∧ n ≤ m ∧ mm_r17_35 E (mm_ev E d) (n + 4) (mm_ad B 40) (mm_i tog) (mm_ad B 49) (mm_ad B 50) (mm_j h) (mm_j l) (mm_i tog) (mm_i w) o10 o11 (mm_hp B S c) = mm_r17_35 E (mm_ev E d) m (mm_ad B 40) (mm_i tog) (mm_ad B 49) (mm_ad B 50) (mm_j h1) (mm_j l1) (mm_i tog) (mm_i (w + 1)) o10' o11' (mm_hp B S c) := by
      by_cases q1 : S.L 49 w + S.L 54 (tog - w) < h
      · refine ⟨S.L 49 w + S.L 54 (tog - w), S.L 50 w, n + 2, some (.long (mm_j (S.L 49 w + S.L 54 (tog - w)))), none, ⟨by omega, by omega, by omega, by omega, by omega⟩, by omega, ?_⟩
        rw [mm_e17_35, mm_br_lt (by omega) (by omega) (by omega) (by omega), if_neg (by omega)]
        simp (disch := omega) only [mm_ptB, pp_pq, mm_hm, mm_j_cmp, mm_cm_lt]
        rw [if_pos q1, mm_e17_89]
        simp (disch := omega) only [pp_pq, mm_hm]
      · by_cases q2 : S.L 49 w + S.L 54 (tog - w) = h
        · by_cases q3 : S.L 50 w < l
          · refine ⟨S.L 49 w + S.L 54 (tog - w), S.L 50 w, n, some (.long (mm_j (S.L 49 w + S.L 54 (tog - w)))), none, ⟨by omega, by omega, by omega, by omega, by omega⟩, by omega, ?_⟩
            rw [mm_e17_35, mm_br_lt (by omega) (by omega) (by omega) (by omega), if_neg (by omega)]
            simp (disch := omega) only [mm_ptB, pp_pq, mm_hm, mm_j_cmp, mm_cm_lt]
            rw [if_neg q1, mm_e17_67]
            simp (disch := omega) only [mm_j_cmp, mm_cm_eq]
            rw [if_pos q2, mm_e17_75]
            simp (disch := omega) only [pp_pq, mm_j_cmp, mm_cm_ge]
            rw [if_pos q3, mm_e17_89]
            simp (disch := omega) only [pp_pq, mm_hm]
          · refine ⟨h, l, n + 1, some (.long (mm_j (S.L 49 w + S.L 54 (tog - w)))), none, ⟨by omega, by omega, by omega, by omega, by omega⟩, by omega, ?_⟩
            rw [mm_e17_35, mm_br_lt (by omega) (by omega) (by omega) (by omega), if_neg (by omega)]
            simp (disch := omega) only [mm_ptB, pp_pq, mm_hm, mm_j_cmp, mm_cm_lt]
            rw [if_neg q1, mm_e17_67]
            simp (disch := omega) only [mm_j_cmp, mm_cm_eq]
            rw [if_pos q2, mm_e17_75]
            simp (disch := omega) only [pp_pq, mm_j_cmp, mm_cm_ge, mm_hm]
            rw [if_neg q3]
        · refine ⟨h, l, n + 2, some (.long (mm_j (S.L 49 w + S.L 54 (tog - w)))), none, ⟨by omega, by omega, by omega, by omega, by omega⟩, by omega, ?_⟩
          rw [mm_e17_35, mm_br_lt (by omega) (by omega) (by omega) (by omega), if_neg (by omega)]
          simp (disch := omega) only [mm_ptB, pp_pq, mm_hm, mm_j_cmp, mm_cm_lt]
          rw [if_neg q1, mm_e17_67]
          simp (disch := omega) only [mm_j_cmp, mm_cm_eq, mm_hm]
          rw [if_neg q2]
    obtain ⟨h1, l1, m, o10', o11', hh1, hm1, e1⟩ := step
    rw [e1]
    exact ih m (w + 1) h1 l1 o10' o11' (by omega) (by omega) (by omega) (by omega) (by rw [hh1.2.2.2.2]; exact mx)
theorem c_pickT {tog b : Int} {own : Int → Int} (hd : 2 ≤ d) (hl : 0 ≤ tog ∧ tog < 120) (hb : 0 ≤ b ∧ b ≤ 2305843009213693952) (hj : pp_vr (S.L 49) (S.L 50) tog b own) (hp : ∀ i : Int, 0 ≤ i → i ≤ tog → 0 ≤ S.L 54 i ∧ S.L 54 i ≤ 288230376151711744) :
    ∃ h' l', (0 ≤ h' ∧ h' ≤ 288230376151711744 ∧ 0 ≤ l' ∧ l' ≤ b) ∧ pp_mi 5316911983139663491615228241121378304 (fun v => ∃ i : Int, (0 ≤ i ∧ i < tog + 1) ∧ v = own i + S.L 54 (tog - i) * 18446744073709551616) (h' * 18446744073709551616 + l') ∧ mm_ev E d 17 [.ref (mm_ad B 40), .int (mm_i tog)] (mm_hp B S c) = mm_oV (mm_hp B ((S.sL 52 (mm_u (S.L 52) 0 h')).sL 53 (mm_u (S.L 53) 0 l')) c) := by
  obtain ⟨e, rfl⟩ : ∃ k, d = k + 1 := ⟨d - 1, by omega⟩
  obtain ⟨F, hF, h⟩ := mm_w17 E e B S c (mm_i tog)
  rw [h, mm_e17_0, mm_i_mn (by omega) (by omega) (by omega) (by omega), Int.min_eq_left (show tog ≤ 119 by omega)]
  simp (disch := omega) only [mm_ptB, pp_pq]
  obtain ⟨h', l', r1, r2, r3⟩ := l_pickT (E := E) (d := e) (B := B) (S := S) (c := c) (tog := tog) (b := b) (own := own) (by omega) hl hb hj hp (tog + 1).toNat (F + 99) 0 288230376151711744 0 none none (by omega) (by omega) (by omega) (by omega) (pp_mi_no (fun y ⟨i, hi, _⟩ => by omega))
  exact ⟨h', l', r1, r2, r3⟩
end
