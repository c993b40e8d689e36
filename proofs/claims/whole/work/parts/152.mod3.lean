/-! WAITS of the model: all of them -/
theorem bb_cp_at {X : Int → Prop} {v : Int} (h0 : 0 ≤ v) (h1 : v < 2 * 1000000000) (h : pp_mi 1000000000 X (min 1000000000 v)) : bb_cp X v := ⟨h0, h1, h⟩
section
variable {E : mm_E} {d B : Nat} {S : mm_S} {c : mm_N} {f wd : Int → Int} {H : Int}
theorem l_lw3 {s sp w oo : Int} {ju wi : Int → Int} (hd : 1 ≤ d) (hM : bb_MC S f wd H) (s0 : 0 ≤ s) (s1 : s < f 0) (ho : f (3 + 7 * s + 2) = oo) (sp0 : 0 ≤ sp) (w0 : 0 ≤ w) (w1 : w ≤ H) (hs : bb_sR S H (mm_bt sp)) (hm : ∀ i t : Int, 0 ≤ i → i < f 0 → mm_bt sp i = true → 0 ≤ t → t ≤ H → S.A 109 (120 * i + t) = bb_ma S i t) : ∀ (j i n : Nat) (v : Int), (f 0).toNat = i + j → j < n → (0 ≤ v ∧ v < 2 * 1000000000) → pp_mi 1000000000 (pp_xb oo (mm_bt sp) (fun _ => H) (bb_mc S) i w) (min 1000000000 v) →
    ∃ (n' : Nat) (v' : Int), n ≤ n' + j + 1 ∧ (0 ≤ v' ∧ v' < 2 * 1000000000) ∧ pp_mi 1000000000 (pp_xb oo (mm_bt sp) (fun _ => H) (bb_mc S) (f 0).toNat w) (min 1000000000 v') ∧ mm_r198_129 E (mm_ev E d) n (mm_ad B 101) (mm_i s) (mm_i sp) (mm_i w) (mm_i 1) (mm_i (i : Int)) (mm_hp B ((S.sA 110 ju).sA 111 (mm_u wi w v)) c) = mm_r198_215 E (mm_ev E d) n' (mm_ad B 101) (mm_i s) (mm_i sp) (mm_i w) (mm_i 1) (mm_i 0) (mm_hp B ((S.sA 110 (mm_u ju w (if w = oo then v' else 1000000000))).sA 111 (mm_u wi w v')) c) := by
  have n12 := hM.2.1.1
  have hH2 := hM.2.2.2.1
  have r := bb_ro hM.2.1 s0 s1
  have eN : S.A 102 0 = f 0 := by rw [hM.1]
  have eO : S.A 102 (3 + 7 * s + 2) = oo := by rw [hM.1]; exact ho
  intro j
  induction j with
  | zero =>
    intro i n v ij hn hv hx
    obtain ⟨n, rfl⟩ : ∃ q, n = q + 1 := ⟨n - 1, by omega⟩
    refine ⟨n, v, by omega, hv, by rw [ij, Nat.add_zero]; exact hx, ?_⟩
    rw [mm_e198_129, c_many hd, mm_cI_ok]
    simp (disch := omega) only [mm_gs, mm_gA_ne, eN, mm_br_le]
    rw [if_pos (by omega)]
    simp (disch := omega) only [mm_ptM]
    rw [c_of hd s0 (by omega) (by omega) (by omega), mm_cI_ok]
    simp (disch := omega) only [mm_gs, mm_gA_ne, eO, mm_br_eq]
    by_cases q : w = oo
    · rw [if_pos q, if_pos q]
      simp (disch := omega) only [mm_ptM, mm_gs, mm_gA_ne, pp_cm, mm_u_eq]
    · rw [if_neg q, if_neg q]
      simp (disch := omega) only [mm_ptM, mm_gs, mm_gA_ne, pp_cm]
  | succ j ih =>
    intro i n v ij hn hv hx
    obtain ⟨n, rfl⟩ : ∃ q, n = q + 1 := ⟨n - 1, by omega⟩
    rw [mm_e198_129, c_many hd, mm_cI_ok]
    simp (disch := omega) only [mm_gs, mm_gA_ne, eN, mm_br_le]
    rw [if_neg (by omega), pp_br10, c_isOf hd sp0 (by omega) (by omega), mm_cI_ok, mm_br_b1]
    by_cases q : mm_bt sp i = true
    · have ma := bb_ma_r (t := w) hs (show 0 ≤ (i : Int) by omega) (by omega) q w1
      have em := hm i w (by omega) (by omega) q w0 w1
      have p := bb_pl_r (x := v) (y := bb_ma S i w) hv.1 ma.1
      rw [if_pos q]
      simp (disch := omega) only [mm_ptM, mm_gs, mm_gA_ne, mm_u_eq, mm_hm]
      rw [em, m_plus hd (by omega) (by omega) (by omega) (by omega), mm_cI_ok]
      simp (disch := omega) only [mm_ptM, mm_gs, mm_gA_ne, mm_u_u, pp_cm]
      have st := bb_xb_s (v := bb_pl v (bb_ma S i w)) q hx (bb_ma_xa (S := S) (k := (i : Int)) w0 w1) (by omega) hv.1 ma.1 p.2.2
      obtain ⟨n', v', r1, r2, r3, r4⟩ := ih (i + 1) n (bb_pl v (bb_ma S i w)) (by omega) (by omega) ⟨p.1, p.2.1⟩ st
      rw [Int.natCast_add, Int.natCast_one] at r4
      exact ⟨n', v', by omega, r2, r3, r4⟩
    · have hq := Bool.eq_false_iff.mpr q
      rw [if_neg q, mm_i_add]
      obtain ⟨n', v', r1, r2, r3, r4⟩ := ih (i + 1) n v (by omega) (by omega) hv (pp_mi_to hx (fun y hy => ⟨y, (pp_x_n hq).1.mp hy, Int.le_refl y⟩) (fun _ hy => (pp_x_n hq).1.mpr hy))
      rw [Int.natCast_add, Int.natCast_one] at r4
      exact ⟨n', v', by omega, r2, r3, r4⟩
theorem l_lw4 {s sp w oo : Int} {ju wi one : Int → Int} {wv : Int} (hd : 2 ≤ d) (hM : bb_MC S f wd H) (sp0 : 0 ≤ sp) (w0 : 0 ≤ w) (w1 : w ≤ H) (hs : bb_sR S H (mm_bt sp)) (hm : ∀ i t : Int, 0 ≤ i → i < f 0 → mm_bt sp i = true → 0 ≤ t → t ≤ H → S.A 109 (120 * i + t) = bb_ma S i t) (how : oo ≤ w) (h1 : ∀ k : Int, 0 ≤ k → k < f 0 → mm_bt sp k = true → pp_mi 1000000000 (fun v => ∃ x, pp_xb oo (bb_ex (mm_bt sp) k) (fun _ => H) (bb_mc S) (f 0).toNat w x ∧ v = x + bb_mc S k w) (min 1000000000 (one k))) : ∀ (j n : Nat) (i v : Int), 0 ≤ i → i + j = f 0 → j < n → (0 ≤ v ∧ v < 2 * 1000000000) → (w = oo → min 1000000000 v ≤ min 1000000000 wv) → (∀ k : Int, 0 ≤ k → k < i → mm_bt sp k = true → min 1000000000 v ≤ min 1000000000 (one k)) → (min 1000000000 v = 1000000000 ∨ (w = oo ∧ min 1000000000 v = min 1000000000 wv) ∨ ∃ k : Int, 0 ≤ k ∧ k < i ∧ mm_bt sp k = true ∧ min 1000000000 v = min 1000000000 (one k)) →
    ∃ (n' : Nat) (v' : Int) (o4 o5 : Option Value), n ≤ n' + j + 1 ∧ (0 ≤ v' ∧ v' < 2 * 1000000000) ∧ (w = oo → min 1000000000 v' ≤ min 1000000000 wv) ∧ (∀ k : Int, 0 ≤ k → k < f 0 → mm_bt sp k = true → min 1000000000 v' ≤ min 1000000000 (one k)) ∧ (min 1000000000 v' = 1000000000 ∨ (w = oo ∧ min 1000000000 v' = min 1000000000 wv) ∨ ∃ k : Int, 0 ≤ k ∧ k < f 0 ∧ mm_bt sp k = true ∧ min 1000000000 v' = min 1000000000 (one k)) ∧ mm_r198_215 E (mm_ev E d) n (mm_ad B 101) (mm_i s) (mm_i sp) (mm_i w) (mm_i 1) (mm_i i) (mm_hp B ((S.sA 110 (mm_u ju w v)).sA 111 wi) c) = mm_r198_84 E (mm_ev E d) n' (mm_ad B 101) (mm_i s) (mm_i sp) (mm_i (w + 1)) o4 o5 (mm_hp B ((S.sA 110 (mm_u ju w v')).sA 111 wi) c) := by
  have n12 := hM.2.1.1
  have hH2 := hM.2.2.2.1
  have eN : S.A 102 0 = f 0 := by rw [hM.1]
  intro j
  induction j with
  | zero =>
    intro n i v i0 ij hn hv v1 v2 v3
    obtain ⟨n, rfl⟩ : ∃ q, n = q + 1 := ⟨n - 1, by omega⟩
    have ie : i = f 0 := by omega
    rw [ie] at v2 v3
    refine ⟨n, v, some (.int (mm_i 1)), some (.int (mm_i i)), by omega, hv, v1, v2, v3, ?_⟩
    rw [mm_e198_215, c_many (by omega), mm_cI_ok]
    simp (disch := omega) only [mm_gs, mm_gA_ne, eN, mm_br_le, mm_hm]
    rw [if_pos (by omega)]
  | succ j ih =>
    intro n i v i0 ij hn hv v1 v2 v3
    obtain ⟨n, rfl⟩ : ∃ q, n = q + 1 := ⟨n - 1, by omega⟩
    rw [mm_e198_215, c_many (by omega), mm_cI_ok]
    simp (disch := omega) only [mm_gs, mm_gA_ne, eN, mm_br_le]
    rw [if_neg (by omega), pp_br10, c_isOf (by omega) sp0 (by omega) (by omega), mm_cI_ok, mm_br_b1]
    by_cases q : mm_bt sp i = true
    · rw [if_pos q]
      obtain ⟨u, u1, u2, u3⟩ := m_oneAt (E := E) (d := d) (B := B) (c := c) (S := ((S.sA 110 (mm_u ju w v)).sA 111 wi)) (f := f) (wd := wd) (H := H) (sp := sp) (k := i) (w := w) (oo := oo) hd (bb_MC_cg hM (by simp (disch := omega) only [mm_gA_ne]) rfl (by simp (disch := omega) only [mm_gA_ne])) sp0 w0 w1 (by unfold bb_sR; simp (disch := omega) only [mm_gA_ne]; exact hs) (by unfold bb_ma; simp (disch := omega) only [mm_gA_ne]; exact hm) i0 (by omega) q how
      have ec : bb_mc ((S.sA 110 (mm_u ju w v)).sA 111 wi) = bb_mc S := by
        unfold bb_mc
        simp (disch := omega) only [mm_gA_ne]
      rw [ec] at u2
      have eu := pp_mi_one u2 (h1 i i0 (by omega) q)
      simp (disch := omega) only [mm_ptM, mm_gs, mm_gA_ne, mm_u_eq]
      rw [u3, mm_cI_ok, mm_i_mn (by omega) (by omega) (by omega) (by omega), mm_i_add]
      simp (disch := omega) only [mm_ptM, mm_gs, mm_gA_ne, mm_u_u, pp_cm]
      obtain ⟨n', v', o4, o5, r1, r2, r3, r4, r5, r6⟩ := ih n (i + 1) (min v u) (by omega) (by omega) (by omega) (by omega) (fun z => by have := v1 z; omega) (fun k k0 k1 hk => by
        by_cases e : k = i
        · rw [e]; omega
        · have := v2 k k0 (by omega) hk; omega) (by
        by_cases e : min 1000000000 v ≤ min 1000000000 u
        · rw [show min 1000000000 (min v u) = min 1000000000 v by omega]
          rcases v3 with z | z | ⟨k, k0, k1, k2, k3⟩
          · exact Or.inl z
          · exact Or.inr (Or.inl z)
          · exact Or.inr (Or.inr ⟨k, k0, by omega, k2, k3⟩)
        · rw [show min 1000000000 (min v u) = min 1000000000 u by omega]
          exact Or.inr (Or.inr ⟨i, i0, by omega, q, eu⟩))
      exact ⟨n', v', o4, o5, by omega, r2, r3, r4, r5, r6⟩
    · rw [if_neg q, mm_i_add]
      obtain ⟨n', v', o4, o5, r1, r2, r3, r4, r5, r6⟩ := ih n (i + 1) v (by omega) (by omega) (by omega) hv v1 (fun k k0 k1 hk => by
        by_cases e : k = i
        · rw [e] at hk; exact absurd hk q
        · exact v2 k k0 (by omega) hk) (by
        rcases v3 with z | z | ⟨k, k0, k1, k2, k3⟩
        · exact Or.inl z
        · exact Or.inr (Or.inl z)
        · exact Or.inr (Or.inr ⟨k, k0, by omega, k2, k3⟩))
      exact ⟨n', v', o4, o5, by omega, r2, r3, r4, r5, r6⟩
/-- waits told by sets of bits -/
def bb_WM (S : mm_S) (f : Int → Int) (H : Int) (sp oo w vw vj : Int) : Prop := bb_cp (pp_xb oo (mm_bt sp) (fun _ => H) (bb_mc S) (f 0).toNat w) vw ∧ bb_cp (pp_xj oo (mm_bt sp) (fun _ => H) (bb_mc S) (f 0).toNat w) vj
theorem bb_mc_nn {sp : Int} (hs : bb_sR S H (mm_bt sp)) {k x : Int} (k0 : 0 ≤ k) (k1 : k < 12) (hk : mm_bt sp k = true) (x0 : 0 ≤ x) (x1 : x ≤ H) : 0 ≤ bb_mc S k x := by
  have := hs k x k0 k1 hk x0 x1
  unfold bb_mc
  omega
theorem l_lw5 {s sp oo : Int} (hd : 2 ≤ d) (hM : bb_MC S f wd H) (s0 : 0 ≤ s) (s1 : s < f 0) (ho : f (3 + 7 * s + 2) = oo) (sp0 : 0 ≤ sp) (hs : bb_sR S H (mm_bt sp)) (hm : ∀ i t : Int, 0 ≤ i → i < f 0 → mm_bt sp i = true → 0 ≤ t → t ≤ H → S.A 109 (120 * i + t) = bb_ma S i t) : ∀ (j n : Nat) (w : Int) (ju wi : Int → Int) (o4 o5 : Option Value), 0 ≤ w → w + j = H + 1 → 40 * j < n → (∀ i : Int, 0 ≤ i → i < w → bb_WM S f H sp oo i (wi i) (ju i)) →
    ∃ ju' wi', (∀ i : Int, 0 ≤ i → i ≤ H → bb_WM S f H sp oo i (wi' i) (ju' i)) ∧ mm_r198_84 E (mm_ev E d) n (mm_ad B 101) (mm_i s) (mm_i sp) (mm_i w) o4 o5 (mm_hp B ((S.sA 110 ju).sA 111 wi) c) = mm_oV (mm_hp B ((S.sA 110 ju').sA 111 wi') c) := by
  have n12 := hM.2.1.1
  have hH := hM.2.2.1
  have hH2 := hM.2.2.2.1
  have r := bb_ro hM.2.1 s0 s1
  have eN : S.A 102 0 = f 0 := by rw [hM.1]
  have eO : S.A 102 (3 + 7 * s + 2) = oo := by rw [hM.1]; exact ho
  intro j
  induction j with
  | zero =>
    intro n w ju wi o4 o5 w0 wj hn h
    obtain ⟨n, rfl⟩ : ∃ q, n = q + 1 := ⟨n - 1, by omega⟩
    refine ⟨ju, wi, fun i i0 i1 => h i i0 (by omega), ?_⟩
    rw [mm_e198_84]
    simp (disch := omega) only [mm_ptM, mm_gs, hH, mm_br_lt]
    rw [if_pos (by omega)]
  | succ j ih =>
    intro n w ju wi o4 o5 w0 wj hn h
    obtain ⟨n, rfl⟩ : ∃ q, n = q + 40 := ⟨n - 40, by omega⟩
    have step : ∃ (n' : Nat) (vw vj : Int) (p4 p5 : Option Value), n ≤ n' ∧ bb_WM S f H sp oo w vw vj ∧ mm_r198_84 E (mm_ev E d) (n + 40) (mm_ad B 101) (mm_i s) (mm_i sp) (mm_i w) o4 o5 (mm_hp B ((S.sA 110 ju).sA 111 wi) c) = mm_r198_84 E (mm_ev E d) n' (mm_ad B 101) (mm_i s) (mm_i sp) (mm_i (w + 1)) p4 p5 (mm_hp B ((S.sA 110 (mm_u ju w vj)).sA 111 (mm_u wi w vw)) c) := by
      by_cases q : w < oo
      · refine ⟨n + 36, 1000000000, 1000000000, some (.int (mm_i 0)), some (.int (mm_i 0)), by omega, ⟨⟨by omega, by omega, ?_⟩, ⟨by omega, by omega, ?_⟩⟩, ?_⟩
        · refine pp_mi_no ?_
          rintro x ⟨y, _, y2, _⟩
          have := pp_gx_ge oo (mm_bt sp) y (f 0).toNat
          omega
        · refine pp_mi_no ?_
          rintro x ⟨y, _, y2, _⟩
          have := pp_gx_ge oo (mm_bt sp) y (f 0).toNat
          omega
        · rw [mm_e198_84]
          simp (disch := omega) only [mm_ptM, mm_gs, hH, mm_br_lt]
          rw [if_neg (by omega), c_of (by omega) s0 (by omega) (by omega) (by omega), mm_cI_ok]
          simp (disch := omega) only [mm_gs, mm_gA_ne, eO, mm_br_lt]
          rw [if_pos q, mm_e198_109]
          simp (disch := omega) only [mm_ptM, mm_gs, mm_gA_ne, pp_brT, pp_cm]
          rw [mm_e198_129, c_many (by omega), mm_cI_ok]
          simp (disch := omega) only [mm_gs, mm_gA_ne, eN, mm_br_le]
          rw [if_neg (by omega)]
          simp (disch := omega) only [mm_ptM, pp_brT]
          rw [c_of (by omega) s0 (by omega) (by omega) (by omega), mm_cI_ok]
          simp (disch := omega) only [mm_gs, mm_gA_ne, eO, mm_br_eq]
          rw [if_neg (by omega)]
          simp (disch := omega) only [mm_ptM, mm_gs, mm_gA_ne, pp_cm]
          rw [mm_e198_215, c_many (by omega), mm_cI_ok]
          simp (disch := omega) only [mm_gs, mm_gA_ne, eN, mm_br_le, pp_brT, mm_hm]
          rw [if_neg (by omega)]
      · have how : oo ≤ w := by omega
        have nn : ∀ k : Int, 0 ≤ k → k < f 0 → mm_bt sp k = true → ∀ y, (∃ x, pp_xb oo (bb_ex (mm_bt sp) k) (fun _ => H) (bb_mc S) (f 0).toNat w x ∧ y = x + bb_mc S k w) → 0 ≤ y := by
          rintro k k0 k1 hk _ ⟨x, ⟨y, y1, _, rfl⟩, rfl⟩
          have a := bb_mc_nn hs k0 (by omega) hk w0 (by omega)
          have b : 0 ≤ pp_sm (fun i => if bb_ex (mm_bt sp) k i = true then bb_mc S i (y i) else 0) (f 0).toNat := pp_sm_nn _ (fun i i0 i1 => by
            show 0 ≤ if bb_ex (mm_bt sp) k i = true then bb_mc S i (y i) else 0
            by_cases z : bb_ex (mm_bt sp) k i = true
            · rw [if_pos z]
              have yy := y1 i i0 i1 z
              exact bb_mc_nn hs i0 (by omega) (Bool.and_eq_true_iff.mp z).1 yy.1 yy.2
            · rw [if_neg z]; exact Int.le_refl 0)
          omega
        have ex : ∀ k : Int, ∃ o, 0 ≤ k → k < f 0 → mm_bt sp k = true → pp_mi 1000000000 (fun v => ∃ x, pp_xb oo (bb_ex (mm_bt sp) k) (fun _ => H) (bb_mc S) (f 0).toNat w x ∧ v = x + bb_mc S k w) (min 1000000000 o) := by
          intro k
          by_cases z : 0 ≤ k ∧ k < f 0 ∧ mm_bt sp k = true
          · obtain ⟨o, ho⟩ := bb_mi_has (F := 1000000000) (by omega) (nn k z.1 z.2.1 z.2.2)
            exact ⟨o, fun _ _ _ => by rw [show min 1000000000 o = o by have := ho.1; omega]; exact ho⟩
          · exact ⟨0, fun a b c => absurd ⟨a, b, c⟩ z⟩
        obtain ⟨one, hone⟩ := Classical.axiomOfChoice ex
        have z0 := pp_xb_0 (F := 1000000000) (oo := oo) (q := mm_bt sp) (U := fun _ => H) (c := bb_mc S) (w := w) (by omega)
        rw [if_neg q] at z0
        obtain ⟨n', vw, r1, r2, r3, r4⟩ := l_lw3 (E := E) (d := d) (B := B) (S := S) (c := c) (f := f) (wd := wd) (H := H) (s := s) (sp := sp) (w := w) (oo := oo) (ju := ju) (wi := wi) (by omega) hM s0 s1 ho sp0 w0 (by omega) hs hm (f 0).toNat 0 (n + 38) 0 (by omega) (by omega) (by omega) z0
        have jb : 0 ≤ (if w = oo then vw else 1000000000) ∧ (if w = oo then vw else 1000000000) < 2 * 1000000000 := by
          by_cases z : w = oo
          · rw [if_pos z]; exact r2
          · rw [if_neg z]; omega
        obtain ⟨n2, vj, p4, p5, t1, t2, t3, t4, t5, t6⟩ := l_lw4 (E := E) (d := d) (B := B) (S := S) (c := c) (f := f) (wd := wd) (H := H) (s := s) (sp := sp) (w := w) (oo := oo) (ju := ju) (wi := mm_u wi w vw) (one := one) (wv := vw) hd hM sp0 w0 (by omega) hs hm how (fun k k0 k1 hk => hone k k0 k1 hk) (f 0).toNat n' 0 (if w = oo then vw else 1000000000) (by omega) (by omega) (by omega) jb (fun z => by rw [if_pos z]; omega) (fun k k0 k1 => by omega) (by
          by_cases z : w = oo
          · exact Or.inr (Or.inl ⟨z, by rw [if_pos z]⟩)
          · exact Or.inl (by rw [if_neg z]; omega))
        refine ⟨n2, vw, vj, p4, p5, by omega, ⟨⟨r2.1, r2.2, r3⟩, ⟨t2.1, t2.2, ?_⟩⟩, ?_⟩
        · refine bb_xj_all how w0 (fun k _ _ _ => by show w ≤ H; omega) r3 (fun k k0 k1 hk => hone k k0 (by omega) hk) t3 (fun k k0 k1 hk => t4 k k0 (by omega) hk) ?_
          rcases t5 with z | z | ⟨k, k0, k1, k2, k3⟩
          · exact Or.inl z
          · exact Or.inr (Or.inl z)
          · exact Or.inr (Or.inr ⟨k, k0, by omega, k2, k3⟩)
        · rw [← t6, ← r4, mm_e198_84]
          simp (disch := omega) only [mm_ptM, mm_gs, hH, mm_br_lt]
          rw [if_neg (by omega), c_of (by omega) s0 (by omega) (by omega) (by omega), mm_cI_ok]
          simp (disch := omega) only [mm_gs, mm_gA_ne, eO, mm_br_lt]
          rw [if_neg q, mm_e198_109]
          simp (disch := omega) only [mm_ptM, mm_gs, mm_gA_ne, pp_br10, pp_cm]
          rfl
    obtain ⟨n', vw, vj, p4, p5, r1, r2, r3⟩ := step
    rw [r3]
    exact ih n' (w + 1) _ _ p4 p5 (by omega) (by omega) (by omega) (fun i i0 i1 => by
      by_cases e : i = w
      · rw [e, mm_u_eq, mm_u_eq]; exact r2
      · rw [mm_u_ne e, mm_u_ne e]; exact h i i0 (by omega))
theorem m_layWaits {s sp oo : Int} (hd : 3 ≤ d) (hM : bb_MC S f wd H) (s0 : 0 ≤ s) (s1 : s < f 0) (ho : f (3 + 7 * s + 2) = oo) (sp0 : 0 ≤ sp) (hs : bb_sR S H (mm_bt sp)) : ∃ m ju wi, (∀ i : Int, 0 ≤ i → i ≤ H → bb_WM S f H sp oo i (wi i) (ju i)) ∧ mm_ev E d 198 [.ref (mm_ad B 101), .int (mm_i s), .int (mm_i sp)] (mm_hp B S c) = mm_oV (mm_hp B (((S.sA 109 m).sA 110 ju).sA 111 wi) c) := by
  have n12 := hM.2.1.1
  have hH2 := hM.2.2.2.1
  obtain ⟨e, rfl⟩ : ∃ k, d = k + 1 := ⟨d - 1, by omega⟩
  obtain ⟨F, hF, h⟩ := mm_w198 E e B S c (mm_i s) (mm_i sp)
  obtain ⟨n', m, o4, o5, r1, r2, r3⟩ := l_lw2 (E := E) (d := e) (B := B) (S := S) (c := c) (f := f) (wd := wd) (H := H) (sp := sp) (x1 := mm_i s) (by omega) hM sp0 hs (f 0).toNat (F + 99) 0 (S.A 109) none none (by omega) (by omega) (by omega) (fun i t i0 i1 => by omega)
  rw [pp_sA_id] at r3
  have hM' : bb_MC (S.sA 109 m) f wd H := bb_MC_cg hM (by simp (disch := omega) only [mm_gA_ne]) rfl (by simp (disch := omega) only [mm_gA_ne])
  have ema : bb_ma (S.sA 109 m) = bb_ma S := by unfold bb_ma; simp (disch := omega) only [mm_gA_ne]
  have emc : bb_mc (S.sA 109 m) = bb_mc S := by unfold bb_mc; simp (disch := omega) only [mm_gA_ne]
  have hs' : bb_sR (S.sA 109 m) H (mm_bt sp) := by unfold bb_sR; simp (disch := omega) only [mm_gA_ne]; exact hs
  obtain ⟨ju, wi, t1, t2⟩ := l_lw5 (E := E) (d := e) (B := B) (S := (S.sA 109 m)) (c := c) (f := f) (wd := wd) (H := H) (s := s) (sp := sp) (oo := oo) (by omega) hM' s0 s1 ho sp0 hs' (by rw [ema]; simp (disch := omega) only [mm_gs]; exact r2) (H + 1).toNat n' 0 (S.A 110) (S.A 111) o4 o5 (by omega) (by omega) (by omega) (fun i i0 i1 => by omega)
  refine ⟨m, ju, wi, ?_, ?_⟩
  · unfold bb_WM at t1 ⊢
    rw [emc] at t1
    exact t1
  · rw [h, mm_e198_0]
    refine r3.trans ?_
    have e0 : (((S.sA 109 m).sA 110 (S.A 110)).sA 111 (S.A 111)) = (S.sA 109 m) := by
      have z : ∀ (T : mm_S) (b : Nat), T.sA b (T.A b) = T := fun T b => pp_sA_id T b
      rw [show S.A 110 = ((S.sA 109 m)).A 110 by simp (disch := omega) only [mm_gA_ne], z, show S.A 111 = ((S.sA 109 m)).A 111 by simp (disch := omega) only [mm_gA_ne], z]
    rw [e0] at t2
    exact t2
end
