/-! WHAT A STAGE TELLS in the model -/
section
variable {E : mm_E} {d B : Nat} {S : mm_S} {c : mm_N} {f wd : Int → Int} {H : Int}
/-- numbers on 0 to H -/
def bb_nR (g : Int → Int) (H : Int) : Prop := ∀ i : Int, 0 ≤ i → i ≤ H → 0 ≤ g i ∧ g i < 2 * 1000000000
theorem l_own1 {s t dy : Int} (hd : 2 ≤ d) (hM : bb_MC S f wd H) (s0 : 0 ≤ s) (s1 : s < f 0) (hdy : f (3 + 7 * s + 0) = dy) (t0 : 0 ≤ t) (t1 : t ≤ H) (hj : bb_nR (S.A 110) H) (hb : bb_nR (S.A 112) H) : ∀ (j n : Nat) (w v m : Int) (o5 : Option Value), 0 ≤ w → w + j = H + 1 → 2 * j < n → (0 ≤ v ∧ v < 2 * 1000000000) → 0 ≤ m → pp_mi 1000000000 (fun v => ∃ i : Int, (0 ≤ i ∧ i < w ∧ 0 ≤ i + dy - t) ∧ v = min 1000000000 (S.A 110 i) + bb_mp f wd s (i + dy - t)) m → min 1000000000 v = min 1000000000 (m + S.A 112 t) →
    ∃ (n' : Nat) (v' m' : Int) (o3 o4 o5' : Option Value), n ≤ n' + 2 * j + 1 ∧ (0 ≤ v' ∧ v' < 2 * 1000000000) ∧ 0 ≤ m' ∧ pp_mi 1000000000 (fun v => ∃ i : Int, (0 ≤ i ∧ i ≤ H ∧ 0 ≤ i + dy - t) ∧ v = min 1000000000 (S.A 110 i) + bb_mp f wd s (i + dy - t)) m' ∧ min 1000000000 v' = min 1000000000 (m' + S.A 112 t) ∧ mm_r200_16 E (mm_ev E d) n (mm_ad B 101) (mm_i s) (mm_i t) (mm_i v) (mm_i w) o5 (mm_hp B S c) = mm_r200_2 E (mm_ev E d) n' (mm_ad B 101) (mm_i s) (mm_i (t + 1)) o3 o4 o5' (mm_hp B (S.sA 108 (mm_u (S.A 108) (120 * s + t) v')) c) := by
  have n12 := hM.2.1.1
  have hH := hM.2.2.1
  have hH2 := hM.2.2.2.1
  have r := bb_ro hM.2.1 s0 s1
  have eD : S.A 102 (3 + 7 * s + 0) = dy := by rw [hM.1]; exact hdy
  have bt := hb t t0 t1
  intro j
  induction j with
  | zero =>
    intro n w v m o5 w0 wj hn hv m0 hm e
    obtain ⟨n, rfl⟩ : ∃ q, n = q + 1 := ⟨n - 1, by omega⟩
    refine ⟨n, v, m, some (.int (mm_i v)), some (.int (mm_i w)), o5, by omega, hv, m0, ?_, e, ?_⟩
    · exact pp_mi_to hm (fun z ⟨i, hi, ez⟩ => ⟨z, ⟨i, ⟨hi.1, by omega, hi.2.2⟩, ez⟩, Int.le_refl z⟩) (fun _ ⟨i, hi, ez⟩ => ⟨i, ⟨hi.1, by omega, hi.2.2⟩, ez⟩)
    · rw [mm_e200_16]
      simp (disch := omega) only [mm_ptM, hH, mm_br_lt, mm_hm]
      rw [if_pos (by omega)]
  | succ j ih =>
    intro n w v m o5 w0 wj hn hv m0 hm e
    obtain ⟨n, rfl⟩ : ∃ q, n = q + 2 := ⟨n - 2, by omega⟩
    have rj := hj w w0 (by omega)
    by_cases q1 : 1000000000 ≤ S.A 112 t
    · -- what never is
      have nn : ∀ y, (∃ i : Int, (0 ≤ i ∧ i ≤ H ∧ 0 ≤ i + dy - t) ∧ y = min 1000000000 (S.A 110 i) + bb_mp f wd s (i + dy - t)) → 0 ≤ y := by
        rintro y ⟨i, hi, rfl⟩
        have := hj i hi.1 hi.2.1
        have := bb_mp_nn hM s0 s1 (i + dy - t)
        omega
      obtain ⟨m', hm'⟩ := bb_mi_has (F := 1000000000) (by omega) nn
      have m'0 := pp_mi_nn hm' (by omega) nn
      refine ⟨n + 1, v, m', some (.int (mm_i v)), some (.int (mm_i w)), o5, by omega, hv, m'0, hm', by omega, ?_⟩
      rw [mm_e200_16]
      simp (disch := omega) only [mm_ptM, hH, mm_br_lt, mm_br_le, mm_hm]
      rw [if_neg (by omega), if_pos q1]
    · by_cases q2 : w + dy - t < 0
      · obtain ⟨n', v', m', p3, p4, p5, r1, r2, r3, r4, r5, r6⟩ := ih (n + 1) (w + 1) v m (some (.int (mm_i (w + dy - t)))) (by omega) (by omega) (by omega) hv m0 (pp_mi_to hm (fun z ⟨i, hi, ez⟩ => ⟨z, ⟨i, ⟨hi.1, (by
            by_cases iw : i = w
            · omega
            · omega), hi.2.2⟩, ez⟩, Int.le_refl z⟩) (fun _ ⟨i, hi, ez⟩ => ⟨i, ⟨hi.1, by omega, hi.2.2⟩, ez⟩)) e
        refine ⟨n', v', m', p3, p4, p5, by omega, r2, r3, r4, r5, ?_⟩
        rw [← r6, mm_e200_16]
        simp (disch := omega) only [mm_ptM, hH, mm_br_lt, mm_br_le, mm_hm]
        rw [if_neg (by omega), if_neg q1, c_of (by omega) s0 (by omega) (by omega) (by omega), mm_cI_ok, eD]
        simp (disch := omega) only [mm_hm, mm_br_lt]
        rw [if_pos q2]
      · have pr := bb_mp_r hM s0 s1 (z := w + dy - t) (by omega) (by omega)
        have ext : pp_mi 1000000000 (fun v => ∃ i : Int, (0 ≤ i ∧ i < w + 1 ∧ 0 ≤ i + dy - t) ∧ v = min 1000000000 (S.A 110 i) + bb_mp f wd s (i + dy - t)) (min m (min 1000000000 (S.A 110 w) + bb_mp f wd s (w + dy - t))) := by
          obtain ⟨a1, a2, a3⟩ := hm
          refine ⟨by omega, ?_, ?_⟩
          · rintro _ ⟨i, hi, rfl⟩
            by_cases iw : i = w
            · rw [iw]; omega
            · have := a2 _ ⟨i, ⟨hi.1, by omega, hi.2.2⟩, rfl⟩
              omega
          · by_cases z : m ≤ min 1000000000 (S.A 110 w) + bb_mp f wd s (w + dy - t)
            · rw [show min m (min 1000000000 (S.A 110 w) + bb_mp f wd s (w + dy - t)) = m by omega]
              rcases a3 with a3 | ⟨i, hi, ez⟩
              · exact Or.inl a3
              · exact Or.inr ⟨i, ⟨hi.1, by omega, hi.2.2⟩, ez⟩
            · exact Or.inr ⟨w, ⟨w0, by omega, by omega⟩, by omega⟩
        have go : mm_r200_16 E (mm_ev E d) (n + 2) (mm_ad B 101) (mm_i s) (mm_i t) (mm_i v) (mm_i w) o5 (mm_hp B S c) = mm_r200_54 E (mm_ev E d) (n + 1) (mm_ad B 101) (mm_i s) (mm_i t) (mm_i v) (mm_i w) (mm_i (w + dy - t)) (mm_hp B S c) := by
          rw [mm_e200_16]
          simp (disch := omega) only [mm_ptM, hH, mm_br_lt, mm_br_le, mm_hm]
          rw [if_neg (by omega), if_neg q1, c_of (by omega) s0 (by omega) (by omega) (by omega), mm_cI_ok, eD]
          simp (disch := omega) only [mm_hm, mm_br_lt]
          rw [if_neg q2]
        by_cases q3 : S.A 110 w < 1000000000
        · have p1 := bb_pl_r (x := S.A 110 w) (y := S.A 112 t) rj.1 bt.1
          have p2 := bb_pl_r (x := bb_pl (S.A 110 w) (S.A 112 t)) (y := bb_mp f wd s (w + dy - t)) p1.1 pr.1
          obtain ⟨n', v', m', p3, p4, p5, r1, r2, r3, r4, r5, r6⟩ := ih n (w + 1) (min v (bb_pl (bb_pl (S.A 110 w) (S.A 112 t)) (bb_mp f wd s (w + dy - t)))) _ (some (.int (mm_i (w + dy - t)))) (by omega) (by omega) (by omega) (by omega) (by omega) ext (by omega)
          refine ⟨n', v', m', p3, p4, p5, by omega, r2, r3, r4, r5, ?_⟩
          rw [← r6, go, mm_e200_54]
          simp (disch := omega) only [mm_ptM, mm_br_lt]
          rw [if_pos q3, m_plus (by omega) (by omega) (by omega) (by omega) (by omega), mm_cI_ok, m_price (by omega) hM s0 s1 (by omega) (by omega), mm_cI_ok, m_plus (by omega) (by omega) (by omega) (by omega) (by omega), mm_cI_ok, mm_i_mn (by omega) (by omega) (by omega) (by omega), mm_i_add]
        · obtain ⟨n', v', m', p3, p4, p5, r1, r2, r3, r4, r5, r6⟩ := ih n (w + 1) v _ (some (.int (mm_i (w + dy - t)))) (by omega) (by omega) (by omega) hv (by omega) ext (by omega)
          refine ⟨n', v', m', p3, p4, p5, by omega, r2, r3, r4, r5, ?_⟩
          rw [← r6, go, mm_e200_54]
          simp (disch := omega) only [mm_ptM, mm_br_lt, mm_hm]
          rw [if_neg q3]
/-- cells by the own times: the least over the waits, and what s and its customers cost -/
def bb_rO (S : mm_S) (f wd : Int → Int) (H s dy t v : Int) : Prop := (0 ≤ v ∧ v < 2 * 1000000000) ∧ ∃ m, 0 ≤ m ∧ pp_mi 1000000000 (fun v => ∃ i : Int, (0 ≤ i ∧ i ≤ H ∧ 0 ≤ i + dy - t) ∧ v = min 1000000000 (S.A 110 i) + bb_mp f wd s (i + dy - t)) m ∧ min 1000000000 v = min 1000000000 (m + S.A 112 t)
theorem l_own2 {s dy : Int} (hd : 2 ≤ d) (hM : bb_MC S f wd H) (s0 : 0 ≤ s) (s1 : s < f 0) (hdy : f (3 + 7 * s + 0) = dy) (hj : bb_nR (S.A 110) H) (hb : bb_nR (S.A 112) H) : ∀ (j n : Nat) (t : Int) (g : Int → Int) (o3 o4 o5 : Option Value), 0 ≤ t → t + j = H + 1 → 300 * j < n → (∀ i : Int, 0 ≤ i → i < t → bb_rO S f wd H s dy i (g (120 * s + i))) →
    ∃ g', (∀ i : Int, 0 ≤ i → i ≤ H → bb_rO S f wd H s dy i (g' (120 * s + i))) ∧ (∀ i : Int, ¬ (120 * s ≤ i ∧ i < 120 * s + 120) → g' i = g i) ∧ mm_r200_2 E (mm_ev E d) n (mm_ad B 101) (mm_i s) (mm_i t) o3 o4 o5 (mm_hp B (S.sA 108 g) c) = mm_oV (mm_hp B (S.sA 108 g') c) := by
  have n12 := hM.2.1.1
  have hH := hM.2.2.1
  have hH2 := hM.2.2.2.1
  intro j
  induction j with
  | zero =>
    intro n t g o3 o4 o5 t0 tj hn h
    obtain ⟨n, rfl⟩ : ∃ q, n = q + 1 := ⟨n - 1, by omega⟩
    refine ⟨g, fun i i0 i1 => h i i0 (by omega), fun _ _ => rfl, ?_⟩
    rw [mm_e200_2]
    simp (disch := omega) only [mm_ptM, mm_gs, hH, mm_br_lt]
    rw [if_pos (by omega)]
  | succ j ih =>
    intro n t g o3 o4 o5 t0 tj hn h
    obtain ⟨n, rfl⟩ : ∃ q, n = q + 300 := ⟨n - 300, by omega⟩
    have e110 : (S.sA 108 g).A 110 = S.A 110 := mm_gA_ne (by omega)
    have e112 : (S.sA 108 g).A 112 = S.A 112 := mm_gA_ne (by omega)
    have bt := hb t t0 (by omega)
    obtain ⟨n', v', m', p3, p4, p5, r1, r2, r3, r4, r5, r6⟩ := l_own1 (E := E) (d := d) (B := B) (S := S.sA 108 g) (c := c) (f := f) (wd := wd) (H := H) (s := s) (t := t) (dy := dy) hd (bb_MC_cg hM (mm_gA_ne (by omega)) rfl (mm_gA_ne (by omega))) s0 s1 hdy t0 (by omega) (by rw [e110]; exact hj) (by rw [e112]; exact hb) (H + 1).toNat (n + 299) 0 1000000000 1000000000 o5 (by omega) (by omega) (by omega) (by omega) (by omega) (pp_mi_no (fun y ⟨i, hi, _⟩ => by omega)) (by rw [e112]; omega)
    rw [e110] at r4
    rw [e112] at r5
    simp (disch := omega) only [mm_gs] at r6
    obtain ⟨g', t1, t2, t3⟩ := ih n' (t + 1) (mm_u g (120 * s + t) v') p3 p4 p5 (by omega) (by omega) (by omega) (fun i i0 i1 => by
      by_cases e : i = t
      · rw [e, mm_u_eq]; exact ⟨r2, m', r3, r4, r5⟩
      · rw [mm_u_ne (by omega)]; exact h i i0 (by omega))
    refine ⟨g', t1, fun i hi => by rw [t2 i hi, mm_u_ne (by omega)], ?_⟩
    rw [← t3, mm_e200_2]
    simp (disch := omega) only [mm_ptM, mm_gs, hH, mm_br_lt]
    rw [if_neg (by omega)]
    exact r6
theorem m_byOwn {s dy : Int} (hd : 3 ≤ d) (hM : bb_MC S f wd H) (s0 : 0 ≤ s) (s1 : s < f 0) (hdy : f (3 + 7 * s + 0) = dy) (hj : bb_nR (S.A 110) H) (hb : bb_nR (S.A 112) H) : ∃ g', (∀ i : Int, 0 ≤ i → i ≤ H → bb_rO S f wd H s dy i (g' (120 * s + i))) ∧ (∀ i : Int, ¬ (120 * s ≤ i ∧ i < 120 * s + 120) → g' i = S.A 108 i) ∧ mm_ev E d 200 [.ref (mm_ad B 101), .int (mm_i s)] (mm_hp B S c) = mm_oV (mm_hp B (S.sA 108 g') c) := by
  have hH2 := hM.2.2.2.1
  obtain ⟨e, rfl⟩ : ∃ k, d = k + 1 := ⟨d - 1, by omega⟩
  obtain ⟨F, hF, h⟩ := mm_w200 E e B S c (mm_i s)
  obtain ⟨g', r1, r2, r3⟩ := l_own2 (E := E) (d := e) (B := B) (S := S) (c := c) (f := f) (wd := wd) (H := H) (s := s) (dy := dy) (by omega) hM s0 s1 hdy hj hb (H + 1).toNat (F + 99) 0 (S.A 108) none none none (by omega) (by omega) (by omega) (fun i i0 i1 => by omega)
  rw [pp_sA_id] at r3
  exact ⟨g', r1, r2, by rw [h, mm_e200_0]; exact r3⟩
/-- what s and its customers cost by a wait -/
def bb_oS (S : mm_S) (f wd : Int → Int) (H s dy w v : Int) : Prop := (0 ≤ v ∧ v < 2 * 1000000000) ∧ pp_mi 1000000000 (fun v => ∃ i : Int, (0 ≤ i ∧ i ≤ H ∧ 0 ≤ w + dy - i) ∧ v = min 1000000000 (S.A 112 i) + bb_mp f wd s (w + dy - i)) (min 1000000000 v)
theorem l_sup1 {s w dy : Int} {g : Int → Int} (hd : 2 ≤ d) (hM : bb_MC S f wd H) (s0 : 0 ≤ s) (s1 : s < f 0) (hdy : f (3 + 7 * s + 0) = dy) (w0 : 0 ≤ w) (w1 : w ≤ H) (hb : bb_nR (S.A 112) H) : ∀ (j n : Nat) (t v : Int) (o4 : Option Value), 0 ≤ t → t + j = H + 1 → 3 * j < n → (0 ≤ v ∧ v < 2 * 1000000000) → pp_mi 1000000000 (fun v => ∃ i : Int, (0 ≤ i ∧ i < t ∧ 0 ≤ w + dy - i) ∧ v = min 1000000000 (S.A 112 i) + bb_mp f wd s (w + dy - i)) (min 1000000000 v) →
    ∃ (n' : Nat) (v' : Int) (o3 o4' : Option Value), n ≤ n' + 3 * j + 1 ∧ bb_oS S f wd H s dy w v' ∧ mm_r201_20 E (mm_ev E d) n (mm_ad B 101) (mm_i s) (mm_i w) (mm_i t) o4 (mm_hp B (S.sA 113 (mm_u g w v)) c) = mm_r201_2 E (mm_ev E d) n' (mm_ad B 101) (mm_i s) (mm_i (w + 1)) o3 o4' (mm_hp B (S.sA 113 (mm_u g w v')) c) := by
  have n12 := hM.2.1.1
  have hH := hM.2.2.1
  have hH2 := hM.2.2.2.1
  have r := bb_ro hM.2.1 s0 s1
  have eD : S.A 102 (3 + 7 * s + 0) = dy := by rw [hM.1]; exact hdy
  intro j
  induction j with
  | zero =>
    intro n t v o4 t0 tj hn hv hm
    obtain ⟨n, rfl⟩ : ∃ q, n = q + 1 := ⟨n - 1, by omega⟩
    refine ⟨n, v, some (.int (mm_i t)), o4, by omega, ⟨hv, ?_⟩, ?_⟩
    · exact pp_mi_to hm (fun z ⟨i, hi, ez⟩ => ⟨z, ⟨i, ⟨hi.1, by omega, hi.2.2⟩, ez⟩, Int.le_refl z⟩) (fun _ ⟨i, hi, ez⟩ => ⟨i, ⟨hi.1, by omega, hi.2.2⟩, ez⟩)
    · rw [mm_e201_20]
      simp (disch := omega) only [mm_ptM, mm_gs, hH, mm_br_lt, mm_hm]
      rw [if_pos (by omega)]
  | succ j ih =>
    intro n t v o4 t0 tj hn hv hm
    obtain ⟨n, rfl⟩ : ∃ q, n = q + 3 := ⟨n - 3, by omega⟩
    have bt := hb t t0 (by omega)
    have go : mm_r201_20 E (mm_ev E d) (n + 3) (mm_ad B 101) (mm_i s) (mm_i w) (mm_i t) o4 (mm_hp B (S.sA 113 (mm_u g w v)) c) = (if w + dy - t < 0 then mm_r201_20 E (mm_ev E d) (n + 2) (mm_ad B 101) (mm_i s) (mm_i w) (mm_i (t + 1)) (some (.int (mm_i (w + dy - t)))) (mm_hp B (S.sA 113 (mm_u g w v)) c) else mm_r201_45 E (mm_ev E d) (n + 2) (mm_ad B 101) (mm_i s) (mm_i w) (mm_i t) (mm_i (w + dy - t)) (mm_hp B (S.sA 113 (mm_u g w v)) c)) := by
      rw [mm_e201_20]
      simp (disch := omega) only [mm_ptM, mm_gs, hH, mm_br_lt, mm_hm]
      rw [if_neg (by omega), c_of (by omega) s0 (by omega) (by omega) (by omega), mm_cI_ok]
      simp (disch := omega) only [mm_gs, mm_gA_ne, eD, mm_hm, mm_br_lt]
    rw [go]
    by_cases q2 : w + dy - t < 0
    · rw [if_pos q2]
      obtain ⟨n', v', p3, p4, r1, r2, r3⟩ := ih (n + 2) (t + 1) v (some (.int (mm_i (w + dy - t)))) (by omega) (by omega) (by omega) hv (pp_mi_to hm (fun z ⟨i, hi, ez⟩ => ⟨z, ⟨i, ⟨hi.1, (by
            by_cases iw : i = t
            · omega
            · omega), hi.2.2⟩, ez⟩, Int.le_refl z⟩) (fun _ ⟨i, hi, ez⟩ => ⟨i, ⟨hi.1, by omega, hi.2.2⟩, ez⟩))
      exact ⟨n', v', p3, p4, by omega, r2, r3⟩
    · rw [if_neg q2]
      have pr := bb_mp_r hM s0 s1 (z := w + dy - t) (by omega) (by omega)
      have ext : ∀ u, min 1000000000 u = min (min 1000000000 v) (min 1000000000 (S.A 112 t + bb_mp f wd s (w + dy - t))) → pp_mi 1000000000 (fun v => ∃ i : Int, (0 ≤ i ∧ i < t + 1 ∧ 0 ≤ w + dy - i) ∧ v = min 1000000000 (S.A 112 i) + bb_mp f wd s (w + dy - i)) (min 1000000000 u) := by
        intro u hu
        obtain ⟨a1, a2, a3⟩ := hm
        refine ⟨by clear a3; omega, ?_, ?_⟩
        · rintro _ ⟨i, hi, rfl⟩
          by_cases iw : i = t
          · rw [iw]; clear a3; omega
          · have := a2 _ ⟨i, ⟨hi.1, by omega, hi.2.2⟩, rfl⟩
            clear a3; omega
        · by_cases z : min 1000000000 u = 1000000000
          · exact Or.inl z
          · by_cases z2 : min 1000000000 v ≤ min 1000000000 (S.A 112 t + bb_mp f wd s (w + dy - t))
            · rw [show min 1000000000 u = min 1000000000 v by clear a3; omega]
              rcases a3 with a3 | ⟨i, hi, ez⟩
              · exact Or.inl a3
              · exact Or.inr ⟨i, ⟨hi.1, by omega, hi.2.2⟩, ez⟩
            · exact Or.inr ⟨t, ⟨t0, by clear a3; omega, by clear a3; omega⟩, by clear a3; omega⟩
      rw [mm_e201_45]
      simp (disch := omega) only [mm_ptM, mm_gs, mm_gA_ne, mm_br_lt, mm_hm]
      by_cases q3 : S.A 112 t < 1000000000
      · have p1 := bb_pl_r (x := S.A 112 t) (y := bb_mp f wd s (w + dy - t)) bt.1 pr.1
        have hM' : bb_MC (S.sA 113 (mm_u g w v)) f wd H := bb_MC_cg hM (mm_gA_ne (by omega)) rfl (mm_gA_ne (by omega))
        rw [if_pos q3, mm_e201_59]
        simp (disch := omega) only [mm_ptM, mm_gs, mm_gA_ne, mm_u_eq]
        rw [m_price (by omega) hM' s0 s1 (by omega) (by omega), mm_cI_ok, m_plus (by omega) (by omega) (by omega) (by omega) (by omega), mm_cI_ok, mm_i_mn (by omega) (by omega) (by omega) (by omega), mm_i_add]
        simp (disch := omega) only [mm_ptM, mm_gs, mm_u_u]
        obtain ⟨n', v', p3, p4, r1, r2, r3⟩ := ih n (t + 1) (min v (bb_pl (S.A 112 t) (bb_mp f wd s (w + dy - t)))) (some (.int (mm_i (w + dy - t)))) (by omega) (by omega) (by omega) (by omega) (ext _ (by omega))
        exact ⟨n', v', p3, p4, by omega, r2, r3⟩
      · rw [if_neg q3]
        obtain ⟨n', v', p3, p4, r1, r2, r3⟩ := ih (n + 1) (t + 1) v (some (.int (mm_i (w + dy - t)))) (by omega) (by omega) (by omega) hv (ext _ (by omega))
        exact ⟨n', v', p3, p4, by omega, r2, r3⟩
theorem l_sup2 {s dy : Int} (hd : 2 ≤ d) (hM : bb_MC S f wd H) (s0 : 0 ≤ s) (s1 : s < f 0) (hdy : f (3 + 7 * s + 0) = dy) (hb : bb_nR (S.A 112) H) : ∀ (j n : Nat) (w : Int) (g : Int → Int) (o3 o4 : Option Value), 0 ≤ w → w + j = H + 1 → 400 * j < n → (∀ i : Int, 0 ≤ i → i < w → bb_oS S f wd H s dy i (g i)) →
    ∃ (n' : Nat) (g' : Int → Int) (o3' o4' : Option Value), n ≤ n' + 400 * j + 1 ∧ (∀ i : Int, 0 ≤ i → i ≤ H → bb_oS S f wd H s dy i (g' i)) ∧ mm_r201_2 E (mm_ev E d) n (mm_ad B 101) (mm_i s) (mm_i w) o3 o4 (mm_hp B (S.sA 113 g) c) = mm_r201_104 E (mm_ev E d) n' (mm_ad B 101) (mm_i s) (mm_i 0) o3' o4' (mm_hp B (S.sA 113 g') c) := by
  have hH := hM.2.2.1
  have hH2 := hM.2.2.2.1
  intro j
  induction j with
  | zero =>
    intro n w g o3 o4 w0 wj hn h
    obtain ⟨n, rfl⟩ : ∃ q, n = q + 1 := ⟨n - 1, by omega⟩
    refine ⟨n, g, o3, o4, by omega, fun i i0 i1 => h i i0 (by omega), ?_⟩
    rw [mm_e201_2]
    simp (disch := omega) only [mm_ptM, mm_gs, hH, mm_br_lt]
    rw [if_pos (by omega)]
  | succ j ih =>
    intro n w g o3 o4 w0 wj hn h
    obtain ⟨n, rfl⟩ : ∃ q, n = q + 400 := ⟨n - 400, by omega⟩
    obtain ⟨n', v', p3, p4, r1, r2, r3⟩ := l_sup1 (E := E) (d := d) (B := B) (S := S) (c := c) (f := f) (wd := wd) (H := H) (s := s) (w := w) (dy := dy) (g := g) hd hM s0 s1 hdy w0 (by omega) hb (H + 1).toNat (n + 399) 0 1000000000 o4 (by omega) (by omega) (by omega) (by omega) (pp_mi_no (fun y ⟨i, hi, _⟩ => by omega))
    obtain ⟨n2, g', q3, q4, t1, t2, t3⟩ := ih n' (w + 1) (mm_u g w v') p3 p4 (by omega) (by omega) (by omega) (fun i i0 i1 => by
      by_cases e : i = w
      · rw [e, mm_u_eq]; exact r2
      · rw [mm_u_ne e]; exact h i i0 (by omega))
    refine ⟨n2, g', q3, q4, by omega, t2, ?_⟩
    rw [← t3, ← r3, mm_e201_2]
    simp (disch := omega) only [mm_ptM, mm_gs, hH, mm_br_lt]
    rw [if_neg (by omega)]
/-- what is later, the least of it: a number -/
def bb_lS (S : mm_S) (H x v : Int) : Prop := (0 ≤ v ∧ v < 2 * 1000000000) ∧ pp_mi 1000000000 (fun v => ∃ i : Int, (x ≤ i ∧ i < H + 1) ∧ v = min 1000000000 (S.A 110 i) + min 1000000000 (S.A 113 i)) (min 1000000000 v)
theorem bb_num_ext {g h : Int → Int} {x w v u : Int} (hm : pp_mi 1000000000 (fun v => ∃ i : Int, (x ≤ i ∧ i < w) ∧ v = min 1000000000 (g i) + min 1000000000 (h i)) (min 1000000000 v)) (hx : x ≤ w) (g0 : 0 ≤ g w) (h0 : 0 ≤ h w) (hu : min 1000000000 u = min (min 1000000000 v) (min 1000000000 (g w + h w))) : pp_mi 1000000000 (fun v => ∃ i : Int, (x ≤ i ∧ i < w + 1) ∧ v = min 1000000000 (g i) + min 1000000000 (h i)) (min 1000000000 u) := by
  obtain ⟨a1, a2, a3⟩ := hm
  refine ⟨by clear a3; omega, ?_, ?_⟩
  · rintro _ ⟨i, hi, rfl⟩
    by_cases iw : i = w
    · rw [iw]; clear a3; omega
    · have := a2 _ ⟨i, ⟨hi.1, by omega⟩, rfl⟩
      clear a3; omega
  · by_cases z : min 1000000000 u = 1000000000
    · exact Or.inl z
    · by_cases z2 : min 1000000000 v ≤ min 1000000000 (g w + h w)
      · rw [show min 1000000000 u = min 1000000000 v by clear a3; omega]
        rcases a3 with a3 | ⟨i, hi, ez⟩
        · exact Or.inl a3
        · exact Or.inr ⟨i, ⟨hi.1, by omega⟩, ez⟩
      · exact Or.inr ⟨w, ⟨hx, by clear a3; omega⟩, by clear a3; omega⟩
theorem l_leastFrom {x : Int} {x1 : Int32} (hd : 1 ≤ d) (hM : bb_MC S f wd H) (x0 : 0 ≤ x) (hj : bb_nR (S.A 110) H) (ho : bb_nR (S.A 113) H) : ∀ (j n : Nat) (w v : Int), x ≤ w → w + j = H + 1 → j < n → (0 ≤ v ∧ v < 2 * 1000000000) → pp_mi 1000000000 (fun v => ∃ i : Int, (x ≤ i ∧ i < w) ∧ v = min 1000000000 (S.A 110 i) + min 1000000000 (S.A 113 i)) (min 1000000000 v) → ∃ v', bb_lS S H x v' ∧ mm_r202_5 E (mm_ev E d) n (mm_ad B 101) x1 (mm_i v) (mm_i w) (mm_hp B S c) = mm_oI v' (mm_hp B S c) := by
  have hH := hM.2.2.1
  have hH2 := hM.2.2.2.1
  intro j
  induction j with
  | zero =>
    intro n w v w0 wj hn hv hm
    obtain ⟨n, rfl⟩ : ∃ q, n = q + 1 := ⟨n - 1, by omega⟩
    refine ⟨v, ⟨hv, by rw [show H + 1 = w by omega]; exact hm⟩, ?_⟩
    rw [mm_e202_5]
    simp (disch := omega) only [mm_ptM, hH, mm_br_lt]
    rw [if_pos (by omega)]
  | succ j ih =>
    intro n w v w0 wj hn hv hm
    obtain ⟨n, rfl⟩ : ∃ q, n = q + 1 := ⟨n - 1, by omega⟩
    have rj := hj w (by omega) (by omega)
    have ro := ho w (by omega) (by omega)
    have p1 := bb_pl_r (x := S.A 110 w) (y := S.A 113 w) rj.1 ro.1
    obtain ⟨v', r1, r2⟩ := ih n (w + 1) (min v (bb_pl (S.A 110 w) (S.A 113 w))) (by omega) (by omega) (by omega) (by omega) (bb_num_ext hm w0 rj.1 ro.1 (by omega))
    refine ⟨v', r1, ?_⟩
    rw [← r2, mm_e202_5]
    simp (disch := omega) only [mm_ptM, hH, mm_br_lt]
    rw [if_neg (by omega), m_plus hd (by omega) (by omega) (by omega) (by omega), mm_cI_ok, mm_i_mn (by omega) (by omega) (by omega) (by omega), mm_i_add]
theorem m_leastFrom {x : Int} (hd : 2 ≤ d) (hM : bb_MC S f wd H) (x0 : 0 ≤ x) (x1 : x ≤ H + 1) (hj : bb_nR (S.A 110) H) (ho : bb_nR (S.A 113) H) : ∃ v', bb_lS S H x v' ∧ mm_ev E d 202 [.ref (mm_ad B 101), .int (mm_i x)] (mm_hp B S c) = mm_oI v' (mm_hp B S c) := by
  have hH2 := hM.2.2.2.1
  obtain ⟨e, rfl⟩ : ∃ k, d = k + 1 := ⟨d - 1, by omega⟩
  obtain ⟨F, hF, h⟩ := mm_w202 E e B S c (mm_i x)
  rw [h, mm_e202_0]
  exact l_leastFrom (by omega) hM x0 hj ho (H + 1 - x).toNat (F + 99) x 1000000000 (by omega) (by omega) (by omega) (by omega) (pp_mi_no (fun y ⟨i, hi, _⟩ => by omega))
/-- cells by the times of the supplier -/
def bb_rS (S : mm_S) (H o x v : Int) : Prop := (0 ≤ v ∧ v < 2 * 1000000000) ∧ ∃ u, bb_lS S H (max (x + 1) o) u ∧ min 1000000000 v = if o ≤ x then min (min 1000000000 (S.A 111 x + S.A 113 x)) (min 1000000000 u) else min 1000000000 u
theorem l_sup3 {s o x v0 : Int} {x1 : Int32} (hd : 1 ≤ d) (hM : bb_MC S f wd H) (x0 : 0 ≤ x) (hj : bb_nR (S.A 110) H) (ho : bb_nR (S.A 113) H) (hv0 : 0 ≤ v0 ∧ v0 < 2 * 1000000000) : ∀ (j n : Nat) (w v u : Int), x + 1 ≤ w → w + j = H + 1 → j < n → (0 ≤ v ∧ v < 2 * 1000000000) → (0 ≤ u ∧ u < 2 * 1000000000) → min 1000000000 v = min (min 1000000000 v0) (min 1000000000 u) → pp_mi 1000000000 (fun v => ∃ i : Int, (x + 1 ≤ i ∧ i < w) ∧ v = min 1000000000 (S.A 110 i) + min 1000000000 (S.A 113 i)) (min 1000000000 u) →
    ∃ (n' : Nat) (v' u' : Int), n ≤ n' + j ∧ (0 ≤ v' ∧ v' < 2 * 1000000000) ∧ bb_lS S H (x + 1) u' ∧ min 1000000000 v' = min (min 1000000000 v0) (min 1000000000 u') ∧ mm_r201_133 E (mm_ev E d) n (mm_ad B 101) x1 (mm_i x) (mm_i v) (mm_i w) (mm_hp B S c) = mm_r201_133 E (mm_ev E d) n' (mm_ad B 101) x1 (mm_i x) (mm_i v') (mm_i (H + 1)) (mm_hp B S c) := by
  have hH := hM.2.2.1
  have hH2 := hM.2.2.2.1
  intro j
  induction j with
  | zero =>
    intro n w v u w0 wj hn hv hu e hm
    exact ⟨n, v, u, by omega, hv, ⟨hu, by rw [show H + 1 = w by omega]; exact hm⟩, e, by rw [show H + 1 = w by omega]⟩
  | succ j ih =>
    intro n w v u w0 wj hn hv hu e hm
    obtain ⟨n, rfl⟩ : ∃ q, n = q + 1 := ⟨n - 1, by omega⟩
    have rj := hj w (by omega) (by omega)
    have ro := ho w (by omega) (by omega)
    have p1 := bb_pl_r (x := S.A 110 w) (y := S.A 113 w) rj.1 ro.1
    obtain ⟨n', v', u', r1, r2, r3, r4, r5⟩ := ih n (w + 1) (min v (bb_pl (S.A 110 w) (S.A 113 w))) (min u (bb_pl (S.A 110 w) (S.A 113 w))) (by omega) (by omega) (by omega) (by omega) (by omega) (by omega) (bb_num_ext hm w0 rj.1 ro.1 (by omega))
    refine ⟨n', v', u', by omega, r2, r3, r4, ?_⟩
    rw [← r5, mm_e201_133]
    simp (disch := omega) only [mm_ptM, hH, mm_br_lt]
    rw [if_neg (by omega), m_plus hd (by omega) (by omega) (by omega) (by omega), mm_cI_ok, mm_i_mn (by omega) (by omega) (by omega) (by omega), mm_i_add]
theorem l_sup4 {s o : Int} (hd : 2 ≤ d) (hM : bb_MC S f wd H) (s0 : 0 ≤ s) (s1 : s < f 0) (ho : f (3 + 7 * s + 2) = o) (hj : bb_nR (S.A 110) H) (hw : bb_nR (S.A 111) H) (hq : bb_nR (S.A 113) H) : ∀ (j n : Nat) (x : Int) (g : Int → Int) (o3 o4 : Option Value), 0 ≤ x → x + j = H + 1 → 130 * j < n → (∀ i : Int, 0 ≤ i → i < x → bb_rS S H o i (g (120 * s + i))) →
    ∃ g', (∀ i : Int, 0 ≤ i → i ≤ H → bb_rS S H o i (g' (120 * s + i))) ∧ (∀ i : Int, ¬ (120 * s ≤ i ∧ i < 120 * s + 120) → g' i = g i) ∧ mm_r201_104 E (mm_ev E d) n (mm_ad B 101) (mm_i s) (mm_i x) o3 o4 (mm_hp B (S.sA 108 g) c) = mm_oV (mm_hp B (S.sA 108 g') c) := by
  have n12 := hM.2.1.1
  have hH := hM.2.2.1
  have hH2 := hM.2.2.2.1
  have r := bb_ro hM.2.1 s0 s1
  have oH := hM.2.2.2.2.1 s s0 s1
  have eO : S.A 102 (3 + 7 * s + 2) = o := by rw [hM.1]; exact ho
  intro j
  induction j with
  | zero =>
    intro n x g o3 o4 x0 xj hn h
    obtain ⟨n, rfl⟩ : ∃ q, n = q + 1 := ⟨n - 1, by omega⟩
    refine ⟨g, fun i i0 i1 => h i i0 (by omega), fun _ _ => rfl, ?_⟩
    rw [mm_e201_104]
    simp (disch := omega) only [mm_ptM, mm_gs, hH, mm_br_lt]
    rw [if_pos (by omega)]
  | succ j ih =>
    intro n x g o3 o4 x0 xj hn h
    obtain ⟨n, rfl⟩ : ∃ q, n = q + 130 := ⟨n - 130, by omega⟩
    have rw_ := hw x x0 (by omega)
    have rq := hq x x0 (by omega)
    have p1 := bb_pl_r (x := S.A 111 x) (y := S.A 113 x) rw_.1 rq.1
    have e110 : (S.sA 108 g).A 110 = S.A 110 := mm_gA_ne (by omega)
    have e113 : (S.sA 108 g).A 113 = S.A 113 := mm_gA_ne (by omega)
    have els : ∀ x v, bb_lS (S.sA 108 g) H x v ↔ bb_lS S H x v := fun x v => by unfold bb_lS; rw [e110, e113]
    have hM' : bb_MC (S.sA 108 g) f wd H := bb_MC_cg hM (mm_gA_ne (by omega)) rfl (mm_gA_ne (by omega))
    obtain ⟨n', v', u', r1, r2, r3, r4, r5⟩ := l_sup3 (E := E) (d := d) (B := B) (S := S.sA 108 g) (c := c) (f := f) (wd := wd) (H := H) (s := s) (o := o) (x := x) (v0 := bb_pl (S.A 111 x) (S.A 113 x)) (x1 := mm_i s) (by omega) hM' x0 (by rw [e110]; exact hj) (by rw [e113]; exact hq) ⟨p1.1, p1.2.1⟩ (H - x).toNat (n + 129) (x + 1) (bb_pl (S.A 111 x) (S.A 113 x)) 1000000000 (by omega) (by omega) (by omega) ⟨p1.1, p1.2.1⟩ (by omega) (by omega) (pp_mi_no (fun y ⟨i, hi, _⟩ => by omega))
    obtain ⟨n', rfl⟩ : ∃ q, n' = q + 1 := ⟨n' - 1, by omega⟩
    have step : ∃ (v2 : Int) (p3 p4 : Option Value), bb_rS S H o x v2 ∧ mm_r201_104 E (mm_ev E d) (n + 130) (mm_ad B 101) (mm_i s) (mm_i x) o3 o4 (mm_hp B (S.sA 108 g) c) = mm_r201_104 E (mm_ev E d) n' (mm_ad B 101) (mm_i s) (mm_i (x + 1)) p3 p4 (mm_hp B (S.sA 108 (mm_u g (120 * s + x) v2)) c) := by
      have go : mm_r201_104 E (mm_ev E d) (n + 130) (mm_ad B 101) (mm_i s) (mm_i x) o3 o4 (mm_hp B (S.sA 108 g) c) = mm_r201_133 E (mm_ev E d) (n' + 1) (mm_ad B 101) (mm_i s) (mm_i x) (mm_i v') (mm_i (H + 1)) (mm_hp B (S.sA 108 g) c) := by
        rw [← r5, mm_e201_104]
        simp (disch := omega) only [mm_ptM, mm_gs, mm_gA_ne, hH, mm_br_lt, mm_hm]
        rw [if_neg (by omega), m_plus (by omega) (by omega) (by omega) (by omega) (by omega), mm_cI_ok]
      by_cases q : o ≤ x
      · refine ⟨v', some (.int (mm_i v')), some (.int (mm_i (H + 1))), ⟨r2, u', ?_, ?_⟩, ?_⟩
        · rw [show max (x + 1) o = x + 1 by omega]; exact (els _ _).mp r3
        · rw [if_pos q, ← p1.2.2]; exact r4
        · rw [go, mm_e201_133]
          simp (disch := omega) only [mm_ptM, mm_gs, hH, mm_br_lt]
          rw [if_pos (by omega), c_of (by omega) s0 (by omega) (by omega) (by omega), mm_cI_ok]
          simp (disch := omega) only [mm_gs, mm_gA_ne, eO, mm_br_le]
          rw [if_pos q]
          simp (disch := omega) only [mm_ptM, mm_gs, mm_hm]
      · obtain ⟨v2, t1, t2⟩ := m_leastFrom (E := E) (d := d) (B := B) (c := c) (S := S.sA 108 g) (f := f) (wd := wd) (H := H) (x := o) (by omega) hM' (by omega) (by omega) (by rw [e110]; exact hj) (by rw [e113]; exact hq)
        refine ⟨v2, some (.int (mm_i v')), some (.int (mm_i (H + 1))), ⟨t1.1, v2, ?_, ?_⟩, ?_⟩
        · rw [show max (x + 1) o = o by omega]; exact (els _ _).mp t1
        · rw [if_neg q]
        · rw [go, mm_e201_133]
          simp (disch := omega) only [mm_ptM, mm_gs, hH, mm_br_lt]
          rw [if_pos (by omega), c_of (by omega) s0 (by omega) (by omega) (by omega), mm_cI_ok]
          simp (disch := omega) only [mm_gs, mm_gA_ne, eO, mm_br_le]
          rw [if_neg q, c_of (by omega) s0 (by omega) (by omega) (by omega), mm_cI_ok]
          simp (disch := omega) only [mm_gs, mm_gA_ne, eO]
          rw [t2, mm_cI_ok]
          simp (disch := omega) only [mm_ptM, mm_gs, mm_hm]
    obtain ⟨v2, p3, p4, s2, s3⟩ := step
    obtain ⟨g', t1, t2, t3⟩ := ih n' (x + 1) (mm_u g (120 * s + x) v2) p3 p4 (by omega) (by omega) (by omega) (fun i i0 i1 => by
      by_cases e : i = x
      · rw [e, mm_u_eq]; exact s2
      · rw [mm_u_ne (by omega)]; exact h i i0 (by omega))
    exact ⟨g', t1, fun i hi => by rw [t2 i hi, mm_u_ne (by omega)], by rw [s3]; exact t3⟩
theorem m_bySup {s o dy : Int} (hd : 3 ≤ d) (hM : bb_MC S f wd H) (s0 : 0 ≤ s) (s1 : s < f 0) (ho : f (3 + 7 * s + 2) = o) (hdy : f (3 + 7 * s + 0) = dy) (hj : bb_nR (S.A 110) H) (hw : bb_nR (S.A 111) H) (hb : bb_nR (S.A 112) H) : ∃ g' q', (∀ i : Int, 0 ≤ i → i ≤ H → bb_oS S f wd H s dy i (q' i)) ∧ (∀ i : Int, 0 ≤ i → i ≤ H → bb_rS (S.sA 113 q') H o i (g' (120 * s + i))) ∧ (∀ i : Int, ¬ (120 * s ≤ i ∧ i < 120 * s + 120) → g' i = S.A 108 i) ∧ mm_ev E d 201 [.ref (mm_ad B 101), .int (mm_i s)] (mm_hp B S c) = mm_oV (mm_hp B ((S.sA 108 g').sA 113 q') c) := by
  have hH2 := hM.2.2.2.1
  obtain ⟨e, rfl⟩ : ∃ k, d = k + 1 := ⟨d - 1, by omega⟩
  obtain ⟨F, hF, h⟩ := mm_w201 E e B S c (mm_i s)
  obtain ⟨n', q', o3, o4, r1, r2, r3⟩ := l_sup2 (E := E) (d := e) (B := B) (S := S) (c := c) (f := f) (wd := wd) (H := H) (s := s) (dy := dy) (by omega) hM s0 s1 hdy hb (H + 1).toNat (F + 99) 0 (S.A 113) none none (by omega) (by omega) (by omega) (fun i i0 i1 => by omega)
  rw [pp_sA_id] at r3
  have hM' : bb_MC (S.sA 113 q') f wd H := bb_MC_cg hM (mm_gA_ne (by omega)) rfl (mm_gA_ne (by omega))
  obtain ⟨g', t1, t2, t3⟩ := l_sup4 (E := E) (d := e) (B := B) (S := S.sA 113 q') (c := c) (f := f) (wd := wd) (H := H) (s := s) (o := o) (by omega) hM' s0 s1 ho (by simp (disch := omega) only [mm_gA_ne]; exact hj) (by simp (disch := omega) only [mm_gA_ne]; exact hw) (by simp (disch := omega) only [mm_gs]; exact fun i i0 i1 => (r2 i i0 i1).1) (H + 1).toNat n' 0 (S.A 108) o3 o4 (by omega) (by omega) (by omega) (fun i i0 i1 => by omega)
  refine ⟨g', q', r2, t1, t2, ?_⟩
  have e0 : (S.sA 113 q').sA 108 (S.A 108) = S.sA 113 q' := by
    rw [show S.A 108 = (S.sA 113 q').A 108 from (mm_gA_ne (by omega)).symm, pp_sA_id]
  rw [e0] at t3
  simp (disch := omega) only [pp_cm] at t3
  rw [h, mm_e201_0]
  exact r3.trans t3
end
